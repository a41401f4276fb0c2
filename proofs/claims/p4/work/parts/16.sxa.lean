/-! whole numbers and choices, quick for the kernel -/
theorem sf_b {α : Type} (b : Bool) (x y : α) : Bool.rec (motive := fun _ => α) y x b = bif b then x else y := by cases b <;> rfl
noncomputable def sf_le (a b : Int) : Bool := Int.rec (motive := fun _ => Bool) (fun m => Int.rec (motive := fun _ => Bool) (fun n => Nat.ble m n) (fun _ => false) b) (fun m => Int.rec (motive := fun _ => Bool) (fun _ => true) (fun n => Nat.ble n m) b) a
theorem sf_le_eq (a b : Int) : sf_le a b = decide (a ≤ b) := by
  rcases a with m | m <;> rcases b with n | n
  · show Nat.ble m n = _
    rw [Bool.eq_iff_iff, decide_eq_true_iff, Nat.ble_eq]
    show m ≤ n ↔ ((m : Nat) : Int) ≤ ((n : Nat) : Int)
    omega
  · exact (decide_eq_false (by rw [Int.negSucc_eq]; show ¬ ((m : Nat) : Int) ≤ _; omega)).symm
  · exact (decide_eq_true (by rw [Int.negSucc_eq]; show _ ≤ ((n : Nat) : Int); omega)).symm
  · show Nat.ble n m = _
    rw [Bool.eq_iff_iff, decide_eq_true_iff, Nat.ble_eq, Int.negSucc_eq, Int.negSucc_eq]
    omega
noncomputable def sf_ie (a b : Int) : Bool := Int.rec (motive := fun _ => Bool) (fun m => Int.rec (motive := fun _ => Bool) (fun n => Nat.beq m n) (fun _ => false) b) (fun m => Int.rec (motive := fun _ => Bool) (fun _ => false) (fun n => Nat.beq m n) b) a
theorem sf_ie_eq (a b : Int) : sf_ie a b = decide (a = b) := by
  rcases a with m | m <;> rcases b with n | n
  · show Nat.beq m n = _
    rw [Bool.eq_iff_iff, decide_eq_true_iff, Nat.beq_eq]
    show m = n ↔ ((m : Nat) : Int) = ((n : Nat) : Int)
    omega
  · exact (decide_eq_false (by rw [Int.negSucc_eq]; show ¬ ((m : Nat) : Int) = _; omega)).symm
  · exact (decide_eq_false (by rw [Int.negSucc_eq]; show ¬ _ = ((n : Nat) : Int); omega)).symm
  · show Nat.beq m n = _
    rw [Bool.eq_iff_iff, decide_eq_true_iff, Nat.beq_eq, Int.negSucc_eq, Int.negSucc_eq]
    omega
noncomputable def sf_nn (a : Int) : Bool := Int.rec (motive := fun _ => Bool) (fun _ => true) (fun _ => false) a
theorem sf_nn_eq (a : Int) : sf_nn a = decide (0 ≤ a) := by
  rcases a with m | m
  · exact (decide_eq_true (by show 0 ≤ ((m : Nat) : Int); omega)).symm
  · exact (decide_eq_false (by rw [Int.negSucc_eq]; omega)).symm
noncomputable def sf_iz (a : Int) : Bool := Int.rec (motive := fun _ => Bool) (fun m => Nat.beq m 0) (fun _ => false) a
theorem sf_iz_eq (a : Int) : sf_iz a = decide (a = 0) := by
  rcases a with m | m
  · show Nat.beq m 0 = _
    rw [Bool.eq_iff_iff, decide_eq_true_iff, Nat.beq_eq]
    show m = 0 ↔ ((m : Nat) : Int) = 0
    omega
  · exact (decide_eq_false (by rw [Int.negSucc_eq]; omega)).symm
noncomputable def sf_sn (m n : Nat) : Int := Nat.rec (motive := fun _ => Int) (Int.ofNat (Nat.sub m n)) (fun k _ => Int.negSucc k) (Nat.sub n m)
theorem sf_sn_eq (m n : Nat) : sf_sn m n = Int.subNatNat m n := by
  unfold sf_sn Int.subNatNat
  show Nat.rec (motive := fun _ => Int) (Int.ofNat (m - n)) (fun k _ => Int.negSucc k) (n - m) = _
  cases n - m <;> rfl
noncomputable def sf_no (m : Nat) : Int := Nat.rec (motive := fun _ => Int) (Int.ofNat 0) (fun k _ => Int.negSucc k) m
theorem sf_no_eq (m : Nat) : sf_no m = Int.negOfNat m := by cases m <;> rfl
noncomputable def sf_add (a b : Int) : Int := Int.rec (motive := fun _ => Int) (fun m => Int.rec (motive := fun _ => Int) (fun n => Int.ofNat (Nat.add m n)) (fun n => sf_sn m (Nat.succ n)) b) (fun m => Int.rec (motive := fun _ => Int) (fun n => sf_sn n (Nat.succ m)) (fun n => Int.negSucc (Nat.succ (Nat.add m n))) b) a
theorem sf_add_eq (a b : Int) : sf_add a b = a + b := by
  rcases a with m | m <;> rcases b with n | n
  · rfl
  · exact sf_sn_eq m (n + 1)
  · exact sf_sn_eq n (m + 1)
  · rfl
noncomputable def sf_mul (a b : Int) : Int := Int.rec (motive := fun _ => Int) (fun m => Int.rec (motive := fun _ => Int) (fun n => Int.ofNat (Nat.mul m n)) (fun n => sf_no (Nat.mul m (Nat.succ n))) b) (fun m => Int.rec (motive := fun _ => Int) (fun n => sf_no (Nat.mul (Nat.succ m) n)) (fun n => Int.ofNat (Nat.mul (Nat.succ m) (Nat.succ n))) b) a
theorem sf_mul_eq (a b : Int) : sf_mul a b = a * b := by
  rcases a with m | m <;> rcases b with n | n
  · rfl
  · exact sf_no_eq _
  · exact sf_no_eq _
  · rfl
noncomputable def sf_any {α : Type} (f : α → Bool) (l : List α) : Bool := List.rec (motive := fun _ => Bool) false (fun a _ ih => Bool.rec (motive := fun _ => Bool) ih true (f a)) l
theorem sf_any_eq {α : Type} (f : α → Bool) : ∀ l : List α, sf_any f l = l.any f
  | [] => rfl
  | a :: r => by
    show Bool.rec (motive := fun _ => Bool) (sf_any f r) true (f a) = (f a || r.any f)
    rw [sf_any_eq f r]
    cases f a <;> rfl
noncomputable def sf_or (a b : Bool) : Bool := Bool.rec (motive := fun _ => Bool) b true a
theorem sf_or_eq (a b : Bool) : sf_or a b = (a || b) := by cases a <;> rfl
noncomputable def sf_an (a b : Bool) : Bool := Bool.rec (motive := fun _ => Bool) false b a
theorem sf_an_eq (a b : Bool) : sf_an a b = (a && b) := by cases a <;> rfl
/-! linear forms over symbols -/
abbrev sx_F : Type := Int × List (Nat × Int)
noncomputable def sx_ts (p : Nat → Int) : List (Nat × Int) → Int
  | [] => 0
  | q :: r => q.2 * p q.1 + sx_ts p r
noncomputable def sx_ev (p : Nat → Int) (e : sx_F) : Int := e.1 + sx_ts p e.2
noncomputable def sx_lt (n : Nat) (e : sx_F) : Prop := ∀ q ∈ e.2, q.1 < n
/-- put a term into a sorted list -/
noncomputable def sx_put (s : Nat) (k : Int) (l : List (Nat × Int)) : List (Nat × Int) := List.rec (motive := fun _ => List (Nat × Int)) [(s, k)] (fun q r ih => Bool.rec (motive := fun _ => List (Nat × Int)) (Bool.rec (motive := fun _ => List (Nat × Int)) (q :: ih) ((s, k) :: q :: r) (Nat.ble (Nat.succ s) q.1)) (Bool.rec (motive := fun _ => List (Nat × Int)) ((s, sf_add q.2 k) :: r) r (sf_iz (sf_add q.2 k))) (Nat.beq q.1 s)) l
theorem sx_put_o (s : Nat) (k : Int) (q : Nat × Int) (r : List (Nat × Int)) : sx_put s k (q :: r) = bif Nat.beq q.1 s then (if q.2 + k = 0 then r else (s, q.2 + k) :: r) else bif Nat.blt s q.1 then (s, k) :: q :: r else q :: sx_put s k r := by
  show Bool.rec (motive := fun _ => List (Nat × Int)) (Bool.rec (motive := fun _ => List (Nat × Int)) (q :: sx_put s k r) ((s, k) :: q :: r) (Nat.ble (Nat.succ s) q.1)) (Bool.rec (motive := fun _ => List (Nat × Int)) ((s, sf_add q.2 k) :: r) r (sf_iz (sf_add q.2 k))) (Nat.beq q.1 s) = _
  rw [sf_b, sf_b, sf_b, sf_add_eq, sf_iz_eq, Bool.cond_decide]
  rfl
noncomputable def sx_addl (a b : List (Nat × Int)) : List (Nat × Int) := List.rec (motive := fun _ => List (Nat × Int)) b (fun q _ ih => sx_put q.1 q.2 ih) a
noncomputable def sx_add (a b : sx_F) : sx_F := (sf_add a.1 b.1, sx_addl a.2 b.2)
noncomputable def sx_scl (k : Int) (l : List (Nat × Int)) : List (Nat × Int) := List.rec (motive := fun _ => List (Nat × Int)) [] (fun q _ ih => (q.1, sf_mul k q.2) :: ih) l
noncomputable def sx_mul (k : Int) (a : sx_F) : sx_F := Bool.rec (motive := fun _ => sx_F) (sf_mul k a.1, sx_scl k a.2) (0, []) (sf_iz k)
theorem sx_mul_o (k : Int) (a : sx_F) : sx_mul k a = if k = 0 then (0, []) else (k * a.1, sx_scl k a.2) := by
  show Bool.rec (motive := fun _ => sx_F) (sf_mul k a.1, sx_scl k a.2) (0, []) (sf_iz k) = _
  rw [sf_b, sf_mul_eq, sf_iz_eq, Bool.cond_decide]
noncomputable def sx_sub (a b : sx_F) : sx_F := sx_add a (sx_mul (-1) b)
theorem sx_put_ev (p : Nat → Int) (s : Nat) (k : Int) : ∀ l, sx_ts p (sx_put s k l) = k * p s + sx_ts p l
  | [] => rfl
  | q :: r => by
    rw [sx_put_o]
    cases h : Nat.beq q.1 s with
    | true =>
      have e : q.1 = s := Nat.eq_of_beq_eq_true h
      show sx_ts p (if q.2 + k = 0 then r else (s, q.2 + k) :: r) = k * p s + (q.2 * p q.1 + sx_ts p r)
      rw [e]
      have e2 : q.2 * p s + k * p s = (q.2 + k) * p s := by rw [Int.add_mul]
      by_cases hz : q.2 + k = 0
      · rw [if_pos hz]
        rw [hz, Int.zero_mul] at e2
        omega
      · rw [if_neg hz]
        show (q.2 + k) * p s + sx_ts p r = _
        omega
    | false =>
      show sx_ts p (bif Nat.blt s q.1 then (s, k) :: q :: r else q :: sx_put s k r) = _
      cases Nat.blt s q.1 with
      | true => rfl
      | false =>
        show q.2 * p q.1 + sx_ts p (sx_put s k r) = k * p s + (q.2 * p q.1 + sx_ts p r)
        rw [sx_put_ev p s k r]
        omega
theorem sx_put_lt (n s : Nat) (k : Int) (hs : s < n) : ∀ l : List (Nat × Int), (∀ q ∈ l, q.1 < n) → ∀ q ∈ sx_put s k l, q.1 < n
  | [], _, q, hq => by
    cases List.mem_singleton.mp hq
    exact hs
  | a :: r, h, q, hq => by
    rw [sx_put_o] at hq
    cases h1 : Nat.beq a.1 s with
    | true =>
      rw [h1] at hq
      by_cases hz : a.2 + k = 0
      · have hq : q ∈ (if a.2 + k = 0 then r else (s, a.2 + k) :: r) := hq
        rw [if_pos hz] at hq
        exact h q (List.mem_cons_of_mem _ hq)
      · have hq : q ∈ (if a.2 + k = 0 then r else (s, a.2 + k) :: r) := hq
        rw [if_neg hz] at hq
        cases List.mem_cons.mp hq with
        | inl e => rw [e]; exact hs
        | inr e => exact h q (List.mem_cons_of_mem _ e)
    | false =>
      rw [h1] at hq
      cases h2 : Nat.blt s a.1 with
      | true =>
        rw [h2] at hq
        have hq : q ∈ (s, k) :: a :: r := hq
        cases List.mem_cons.mp hq with
        | inl e => rw [e]; exact hs
        | inr e => exact h q e
      | false =>
        rw [h2] at hq
        have hq : q ∈ a :: sx_put s k r := hq
        cases List.mem_cons.mp hq with
        | inl e => rw [e]; exact h a List.mem_cons_self
        | inr e => exact sx_put_lt n s k hs r (fun x hx => h x (List.mem_cons_of_mem _ hx)) q e
theorem sx_addl_ev (p : Nat → Int) : ∀ a b, sx_ts p (sx_addl a b) = sx_ts p a + sx_ts p b
  | [], b => by show sx_ts p b = 0 + sx_ts p b; omega
  | q :: r, b => by
    show sx_ts p (sx_put q.1 q.2 (sx_addl r b)) = q.2 * p q.1 + sx_ts p r + sx_ts p b
    rw [sx_put_ev, sx_addl_ev p r b]
    omega
theorem sx_addl_lt (n : Nat) : ∀ a b : List (Nat × Int), (∀ q ∈ a, q.1 < n) → (∀ q ∈ b, q.1 < n) → ∀ q ∈ sx_addl a b, q.1 < n
  | [], b, _, hb => hb
  | q :: r, b, ha, hb => sx_put_lt n q.1 q.2 (ha q List.mem_cons_self) _ (sx_addl_lt n r b (fun x hx => ha x (List.mem_cons_of_mem _ hx)) hb)
theorem sx_add_ev (p : Nat → Int) (a b : sx_F) : sx_ev p (sx_add a b) = sx_ev p a + sx_ev p b := by
  show sf_add a.1 b.1 + sx_ts p (sx_addl a.2 b.2) = a.1 + sx_ts p a.2 + (b.1 + sx_ts p b.2)
  rw [sx_addl_ev, sf_add_eq]
  omega
theorem sx_add_lt {n : Nat} {a b : sx_F} (ha : sx_lt n a) (hb : sx_lt n b) : sx_lt n (sx_add a b) := sx_addl_lt n a.2 b.2 ha hb
theorem sx_scl_ev (p : Nat → Int) (k : Int) : ∀ a, sx_ts p (sx_scl k a) = k * sx_ts p a
  | [] => by show (0 : Int) = k * 0; omega
  | q :: r => by
    show sf_mul k q.2 * p q.1 + sx_ts p (sx_scl k r) = k * (q.2 * p q.1 + sx_ts p r)
    rw [sf_mul_eq, sx_scl_ev p k r, Int.mul_add, Int.mul_assoc]
theorem sx_scl_lt (n : Nat) (k : Int) : ∀ a : List (Nat × Int), (∀ q ∈ a, q.1 < n) → ∀ q ∈ sx_scl k a, q.1 < n
  | [], _, q, hq => by cases hq
  | a :: r, h, q, hq => by
    cases List.mem_cons.mp hq with
    | inl e => rw [e]; exact h a List.mem_cons_self
    | inr e => exact sx_scl_lt n k r (fun x hx => h x (List.mem_cons_of_mem _ hx)) q e
theorem sx_mul_ev (p : Nat → Int) (k : Int) (a : sx_F) : sx_ev p (sx_mul k a) = k * sx_ev p a := by
  rw [sx_mul_o]
  by_cases h : k = 0
  · rw [if_pos h, h]
    show (0 : Int) + 0 = _
    omega
  · rw [if_neg h]
    show k * a.1 + sx_ts p (sx_scl k a.2) = k * (a.1 + sx_ts p a.2)
    rw [sx_scl_ev, Int.mul_add]
theorem sx_mul_lt {n : Nat} {k : Int} {a : sx_F} (ha : sx_lt n a) : sx_lt n (sx_mul k a) := by
  rw [sx_mul_o]
  by_cases h : k = 0
  · rw [if_pos h]
    intro q hq
    cases hq
  · rw [if_neg h]
    exact sx_scl_lt n k a.2 ha
theorem sx_sub_ev (p : Nat → Int) (a b : sx_F) : sx_ev p (sx_sub a b) = sx_ev p a - sx_ev p b := by
  unfold sx_sub
  rw [sx_add_ev, sx_mul_ev]
  omega
theorem sx_sub_lt {n : Nat} {a b : sx_F} (ha : sx_lt n a) (hb : sx_lt n b) : sx_lt n (sx_sub a b) := sx_add_lt ha (sx_mul_lt hb)
/-- symbols below n do not see what stands at n -/
noncomputable def sx_up (p : Nat → Int) (n : Nat) (v : Int) : Nat → Int := fun s => if s = n then v else p s
theorem sx_ts_agree {p p' : Nat → Int} {n : Nat} (h : ∀ s, s < n → p' s = p s) : ∀ l : List (Nat × Int), (∀ q ∈ l, q.1 < n) → sx_ts p' l = sx_ts p l
  | [], _ => rfl
  | q :: r, hl => by
    show q.2 * p' q.1 + sx_ts p' r = q.2 * p q.1 + sx_ts p r
    rw [h q.1 (hl q List.mem_cons_self), sx_ts_agree h r (fun x hx => hl x (List.mem_cons_of_mem _ hx))]
theorem sx_ev_agree {p p' : Nat → Int} {n : Nat} (h : ∀ s, s < n → p' s = p s) {e : sx_F} (he : sx_lt n e) : sx_ev p' e = sx_ev p e := by
  unfold sx_ev
  rw [sx_ts_agree h e.2 he]
/-! intervals -/
abbrev sx_E : Type := List (Nat × Int × Int)
noncomputable def sx_Sat (p : Nat → Int) (E : sx_E) : Prop := ∀ q ∈ E, q.2.1 ≤ p q.1 ∧ p q.1 ≤ q.2.2
noncomputable def sx_get (E : sx_E) (s : Nat) : Option (Int × Int) := List.rec (motive := fun _ => Option (Int × Int)) none (fun q _ ih => Bool.rec (motive := fun _ => Option (Int × Int)) ih (some q.2) (Nat.beq q.1 s)) E
theorem sx_get_o (q : Nat × Int × Int) (r : sx_E) (s : Nat) : sx_get (q :: r) s = bif Nat.beq q.1 s then some q.2 else sx_get r s := by
  show Bool.rec (motive := fun _ => Option (Int × Int)) (sx_get r s) (some q.2) (Nat.beq q.1 s) = _
  rw [sf_b]
theorem sx_get_ok {p : Nat → Int} : ∀ {E : sx_E} {s : Nat} {i : Int × Int}, sx_Sat p E → sx_get E s = some i → i.1 ≤ p s ∧ p s ≤ i.2
  | [], s, i, _, h => by cases h
  | q :: r, s, i, hE, h => by
    rw [sx_get_o] at h
    cases hb : Nat.beq q.1 s with
    | true =>
      rw [hb] at h
      cases h
      have e : q.1 = s := Nat.eq_of_beq_eq_true hb
      rw [← e]
      exact hE q List.mem_cons_self
    | false =>
      rw [hb] at h
      exact sx_get_ok (fun x hx => hE x (List.mem_cons_of_mem _ hx)) h
/-- least and most of a list of terms -/
noncomputable def sx_tb (E : sx_E) (l : List (Nat × Int)) : Option (Int × Int) := List.rec (motive := fun _ => Option (Int × Int)) (some (0, 0)) (fun q _ ih => Option.rec (motive := fun _ => Option (Int × Int)) none (fun i => Option.rec (motive := fun _ => Option (Int × Int)) none (fun j => Bool.rec (motive := fun _ => Option (Int × Int)) (some (sf_add (sf_mul q.2 i.2) j.1, sf_add (sf_mul q.2 i.1) j.2)) (some (sf_add (sf_mul q.2 i.1) j.1, sf_add (sf_mul q.2 i.2) j.2)) (sf_nn q.2)) ih) (sx_get E q.1)) l
theorem sx_tb_o (E : sx_E) (q : Nat × Int) (r : List (Nat × Int)) : sx_tb E (q :: r) = match sx_get E q.1, sx_tb E r with
    | some i, some j => if 0 ≤ q.2 then some (q.2 * i.1 + j.1, q.2 * i.2 + j.2) else some (q.2 * i.2 + j.1, q.2 * i.1 + j.2)
    | _, _ => none := by
  show Option.rec (motive := fun _ => Option (Int × Int)) none (fun i => Option.rec (motive := fun _ => Option (Int × Int)) none (fun j => Bool.rec (motive := fun _ => Option (Int × Int)) (some (sf_add (sf_mul q.2 i.2) j.1, sf_add (sf_mul q.2 i.1) j.2)) (some (sf_add (sf_mul q.2 i.1) j.1, sf_add (sf_mul q.2 i.2) j.2)) (sf_nn q.2)) (sx_tb E r)) (sx_get E q.1) = _
  cases sx_get E q.1 with
  | none => rfl
  | some i =>
    cases sx_tb E r with
    | none => rfl
    | some j =>
      show Bool.rec (motive := fun _ => Option (Int × Int)) (some (sf_add (sf_mul q.2 i.2) j.1, sf_add (sf_mul q.2 i.1) j.2)) (some (sf_add (sf_mul q.2 i.1) j.1, sf_add (sf_mul q.2 i.2) j.2)) (sf_nn q.2) = (if 0 ≤ q.2 then some (q.2 * i.1 + j.1, q.2 * i.2 + j.2) else some (q.2 * i.2 + j.1, q.2 * i.1 + j.2))
      rw [sf_b, sf_nn_eq, Bool.cond_decide]
      simp only [sf_add_eq, sf_mul_eq]
noncomputable def sx_bd (E : sx_E) (e : sx_F) : Option (Int × Int) := Option.rec (motive := fun _ => Option (Int × Int)) none (fun j => some (sf_add e.1 j.1, sf_add e.1 j.2)) (sx_tb E e.2)
theorem sx_bd_o (E : sx_E) (e : sx_F) : sx_bd E e = match sx_tb E e.2 with
  | some j => some (e.1 + j.1, e.1 + j.2)
  | none => none := by
  unfold sx_bd
  cases sx_tb E e.2 with
  | none => rfl
  | some j =>
    show some (sf_add e.1 j.1, sf_add e.1 j.2) = some (e.1 + j.1, e.1 + j.2)
    rw [sf_add_eq, sf_add_eq]
theorem sx_tb_ok {p : Nat → Int} {E : sx_E} (hE : sx_Sat p E) : ∀ (l : List (Nat × Int)) (j : Int × Int), sx_tb E l = some j → j.1 ≤ sx_ts p l ∧ sx_ts p l ≤ j.2
  | [], j, h => by
    cases h
    exact ⟨Int.le_refl _, Int.le_refl _⟩
  | q :: r, j, h => by
    rw [sx_tb_o] at h
    cases h1 : sx_get E q.1 with
    | none => rw [h1] at h; cases h
    | some i =>
      cases h2 : sx_tb E r with
      | none => rw [h1, h2] at h; cases h
      | some m =>
        rw [h1, h2] at h
        have h : (if 0 ≤ q.2 then some (q.2 * i.1 + m.1, q.2 * i.2 + m.2) else some (q.2 * i.2 + m.1, q.2 * i.1 + m.2)) = some j := h
        obtain ⟨a1, a2⟩ := sx_get_ok hE h1
        obtain ⟨b1, b2⟩ := sx_tb_ok hE r m h2
        by_cases hp : 0 ≤ q.2
        · rw [if_pos hp] at h
          cases h
          have c1 : q.2 * i.1 ≤ q.2 * p q.1 := Int.mul_le_mul_of_nonneg_left a1 hp
          have c2 : q.2 * p q.1 ≤ q.2 * i.2 := Int.mul_le_mul_of_nonneg_left a2 hp
          show q.2 * i.1 + m.1 ≤ q.2 * p q.1 + sx_ts p r ∧ q.2 * p q.1 + sx_ts p r ≤ q.2 * i.2 + m.2
          omega
        · rw [if_neg hp] at h
          cases h
          have hn : q.2 ≤ 0 := by omega
          have c1 : q.2 * p q.1 ≤ q.2 * i.1 := Int.mul_le_mul_of_nonpos_left hn a1
          have c2 : q.2 * i.2 ≤ q.2 * p q.1 := Int.mul_le_mul_of_nonpos_left hn a2
          show q.2 * i.2 + m.1 ≤ q.2 * p q.1 + sx_ts p r ∧ q.2 * p q.1 + sx_ts p r ≤ q.2 * i.1 + m.2
          omega
theorem sx_bd_ok {p : Nat → Int} {E : sx_E} (hE : sx_Sat p E) {e : sx_F} {j : Int × Int} (h : sx_bd E e = some j) : j.1 ≤ sx_ev p e ∧ sx_ev p e ≤ j.2 := by
  rw [sx_bd_o] at h
  cases h2 : sx_tb E e.2 with
  | none => rw [h2] at h; cases h
  | some m =>
    rw [h2] at h
    cases h
    obtain ⟨b1, b2⟩ := sx_tb_ok hE e.2 m h2
    show e.1 + m.1 ≤ e.1 + sx_ts p e.2 ∧ e.1 + sx_ts p e.2 ≤ e.1 + m.2
    omega
/-! facts: forms that are not above 0 -/
noncomputable def sx_Fok (p : Nat → Int) (C : List sx_F) : Prop := ∀ f ∈ C, sx_ev p f ≤ 0
noncomputable def sx_le (a b : Int) : Bool := sf_le a b
theorem sx_leT {a b : Int} (h : sx_le a b = true) : a ≤ b := of_decide_eq_true ((sf_le_eq a b).symm.trans h)
/-- is a form at most h, at least l -/
noncomputable def sx_hi1 (E : sx_E) (e : sx_F) (h : Int) : Bool := Option.rec (motive := fun _ => Bool) false (fun j => sf_le j.2 h) (sx_bd E e)
noncomputable def sx_lo1 (E : sx_E) (e : sx_F) (l : Int) : Bool := Option.rec (motive := fun _ => Bool) false (fun j => sf_le l j.1) (sx_bd E e)
noncomputable def sx_hi (E : sx_E) (C : List sx_F) (e : sx_F) (h : Int) : Bool := Bool.rec (motive := fun _ => Bool) (sf_any (fun f => sx_hi1 E (sx_sub e f) h) C) true (sx_hi1 E e h)
noncomputable def sx_lo (E : sx_E) (C : List sx_F) (e : sx_F) (l : Int) : Bool := Bool.rec (motive := fun _ => Bool) (sf_any (fun f => sx_lo1 E (sx_add e f) l) C) true (sx_lo1 E e l)
noncomputable def sx_in (E : sx_E) (C : List sx_F) (e : sx_F) (l h : Int) : Bool := Bool.rec (motive := fun _ => Bool) false (sx_hi E C e h) (sx_lo E C e l)
theorem sx_hi_o (E : sx_E) (C : List sx_F) (e : sx_F) (h : Int) : sx_hi E C e h = (sx_hi1 E e h || C.any fun f => sx_hi1 E (sx_sub e f) h) := by
  unfold sx_hi
  rw [sf_any_eq]
  cases sx_hi1 E e h <;> rfl
theorem sx_lo_o (E : sx_E) (C : List sx_F) (e : sx_F) (l : Int) : sx_lo E C e l = (sx_lo1 E e l || C.any fun f => sx_lo1 E (sx_add e f) l) := by
  unfold sx_lo
  rw [sf_any_eq]
  cases sx_lo1 E e l <;> rfl
theorem sx_in_o (E : sx_E) (C : List sx_F) (e : sx_F) (l h : Int) : sx_in E C e l h = (sx_lo E C e l && sx_hi E C e h) := by
  unfold sx_in
  cases sx_lo E C e l <;> rfl
theorem sx_hi1_ok {p : Nat → Int} {E : sx_E} (hE : sx_Sat p E) {e : sx_F} {h : Int} (hh : sx_hi1 E e h = true) : sx_ev p e ≤ h := by
  unfold sx_hi1 at hh
  cases h1 : sx_bd E e with
  | none => rw [h1] at hh; cases hh
  | some j =>
    rw [h1] at hh
    have h2 := (sx_bd_ok hE h1).2
    have h3 : j.2 ≤ h := sx_leT hh
    omega
theorem sx_lo1_ok {p : Nat → Int} {E : sx_E} (hE : sx_Sat p E) {e : sx_F} {l : Int} (hh : sx_lo1 E e l = true) : l ≤ sx_ev p e := by
  unfold sx_lo1 at hh
  cases h1 : sx_bd E e with
  | none => rw [h1] at hh; cases hh
  | some j =>
    rw [h1] at hh
    have h2 := (sx_bd_ok hE h1).1
    have h3 : l ≤ j.1 := sx_leT hh
    omega
theorem sx_hi_ok {p : Nat → Int} {E : sx_E} {C : List sx_F} (hE : sx_Sat p E) (hC : sx_Fok p C) {e : sx_F} {h : Int} (hh : sx_hi E C e h = true) : sx_ev p e ≤ h := by
  rw [sx_hi_o] at hh
  rw [Bool.or_eq_true, List.any_eq_true] at hh
  rcases hh with hh | ⟨f, hf, hh⟩
  · exact sx_hi1_ok hE hh
  · have h1 := sx_hi1_ok hE hh
    rw [sx_sub_ev] at h1
    have h2 := hC f hf
    omega
theorem sx_lo_ok {p : Nat → Int} {E : sx_E} {C : List sx_F} (hE : sx_Sat p E) (hC : sx_Fok p C) {e : sx_F} {l : Int} (hh : sx_lo E C e l = true) : l ≤ sx_ev p e := by
  rw [sx_lo_o] at hh
  rw [Bool.or_eq_true, List.any_eq_true] at hh
  rcases hh with hh | ⟨f, hf, hh⟩
  · exact sx_lo1_ok hE hh
  · have h1 := sx_lo1_ok hE hh
    rw [sx_add_ev] at h1
    have h2 := hC f hf
    omega
theorem sx_in_ok {p : Nat → Int} {E : sx_E} {C : List sx_F} (hE : sx_Sat p E) (hC : sx_Fok p C) {e : sx_F} {l h : Int} (hh : sx_in E C e l h = true) : l ≤ sx_ev p e ∧ sx_ev p e ≤ h := by
  rw [sx_in_o] at hh
  rw [Bool.and_eq_true] at hh
  exact ⟨sx_lo_ok hE hC hh.1, sx_hi_ok hE hC hh.2⟩
/-- narrower intervals where d is not above 0; b: the least of d -/
noncomputable def sx_nar (E : sx_E) (b : Int) (l : List (Nat × Int)) : sx_E := List.rec (motive := fun _ => sx_E) E (fun q _ ih => Option.rec (motive := fun _ => sx_E) ih (fun i => Bool.rec (motive := fun _ => sx_E) (Bool.rec (motive := fun _ => sx_E) ih (Bool.rec (motive := fun _ => sx_E) ((q.1, b + i.2, i.2) :: ih) ih (sf_le (b + i.2) i.1)) (sf_ie q.2 (-1))) (Bool.rec (motive := fun _ => sx_E) ((q.1, i.1, i.1 - b) :: ih) ih (sf_le i.2 (i.1 - b))) (sf_ie q.2 1)) (sx_get E q.1)) l
theorem sx_nar_o (E : sx_E) (b : Int) (q : Nat × Int) (r : List (Nat × Int)) : sx_nar E b (q :: r) = match sx_get E q.1 with
    | some i => if q.2 = 1 then (if i.1 - b < i.2 then (q.1, i.1, i.1 - b) :: sx_nar E b r else sx_nar E b r)
      else if q.2 = -1 then (if i.1 < b + i.2 then (q.1, b + i.2, i.2) :: sx_nar E b r else sx_nar E b r) else sx_nar E b r
    | none => sx_nar E b r := by
  show Option.rec (motive := fun _ => sx_E) (sx_nar E b r) (fun i => Bool.rec (motive := fun _ => sx_E) (Bool.rec (motive := fun _ => sx_E) (sx_nar E b r) (Bool.rec (motive := fun _ => sx_E) ((q.1, b + i.2, i.2) :: sx_nar E b r) (sx_nar E b r) (sf_le (b + i.2) i.1)) (sf_ie q.2 (-1))) (Bool.rec (motive := fun _ => sx_E) ((q.1, i.1, i.1 - b) :: sx_nar E b r) (sx_nar E b r) (sf_le i.2 (i.1 - b))) (sf_ie q.2 1)) (sx_get E q.1) = _
  cases sx_get E q.1 with
  | none => rfl
  | some i =>
    show Bool.rec (motive := fun _ => sx_E) (Bool.rec (motive := fun _ => sx_E) (sx_nar E b r) (Bool.rec (motive := fun _ => sx_E) ((q.1, b + i.2, i.2) :: sx_nar E b r) (sx_nar E b r) (sf_le (b + i.2) i.1)) (sf_ie q.2 (-1))) (Bool.rec (motive := fun _ => sx_E) ((q.1, i.1, i.1 - b) :: sx_nar E b r) (sx_nar E b r) (sf_le i.2 (i.1 - b))) (sf_ie q.2 1) = (if q.2 = 1 then (if i.1 - b < i.2 then (q.1, i.1, i.1 - b) :: sx_nar E b r else sx_nar E b r)
      else if q.2 = -1 then (if i.1 < b + i.2 then (q.1, b + i.2, i.2) :: sx_nar E b r else sx_nar E b r) else sx_nar E b r)
    rw [sf_b, sf_b, sf_b, sf_b, sf_ie_eq, sf_ie_eq, sf_le_eq, sf_le_eq, Bool.cond_decide, Bool.cond_decide, Bool.cond_decide, Bool.cond_decide]
    by_cases e1 : q.2 = 1
    · rw [if_pos e1, if_pos e1]
      by_cases h : i.1 - b < i.2
      · rw [if_pos h, if_neg (by omega)]
      · rw [if_neg h, if_pos (by omega)]
    · rw [if_neg e1, if_neg e1]
      by_cases e2 : q.2 = -1
      · rw [if_pos e2, if_pos e2]
        by_cases h : i.1 < b + i.2
        · rw [if_pos h, if_neg (by omega)]
        · rw [if_neg h, if_pos (by omega)]
      · rw [if_neg e2, if_neg e2]
noncomputable def sx_T2 (l : List (Nat × Int)) : Bool := match l with
  | _ :: _ :: _ => true
  | _ => false
/-- suppose that d is not above 0 -/
noncomputable def sx_sup (E : sx_E) (C : List sx_F) (d : sx_F) : Option (sx_E × List sx_F) := Option.rec (motive := fun _ => Option (sx_E × List sx_F)) (some (E, C)) (fun j => Bool.rec (motive := fun _ => Option (sx_E × List sx_F)) none (Bool.rec (motive := fun _ => Option (sx_E × List sx_F)) (Bool.rec (motive := fun _ => Option (sx_E × List sx_F)) (some (sx_nar E j.1 d.2, bif sx_T2 d.2 then d :: C else C)) none (sf_any (fun f => sx_lo1 E (sx_add d f) 1) (C.take 4))) (some (E, C)) (sf_le j.2 0)) (sf_le j.1 0)) (sx_bd E d)
theorem sx_sup_o (E : sx_E) (C : List sx_F) (d : sx_F) : sx_sup E C d = match sx_bd E d with
  | some j => if 0 < j.1 then none else if j.2 ≤ 0 then some (E, C) else bif (C.take 4).any (fun f => sx_lo1 E (sx_add d f) 1) then none else some (sx_nar E j.1 d.2, bif sx_T2 d.2 then d :: C else C)
  | none => some (E, C) := by
  unfold sx_sup
  cases sx_bd E d with
  | none => rfl
  | some j =>
    show Bool.rec (motive := fun _ => Option (sx_E × List sx_F)) none (Bool.rec (motive := fun _ => Option (sx_E × List sx_F)) (Bool.rec (motive := fun _ => Option (sx_E × List sx_F)) (some (sx_nar E j.1 d.2, bif sx_T2 d.2 then d :: C else C)) none (sf_any (fun f => sx_lo1 E (sx_add d f) 1) (C.take 4))) (some (E, C)) (sf_le j.2 0)) (sf_le j.1 0) = (if 0 < j.1 then none else if j.2 ≤ 0 then some (E, C) else bif (C.take 4).any (fun f => sx_lo1 E (sx_add d f) 1) then none else some (sx_nar E j.1 d.2, bif sx_T2 d.2 then d :: C else C))
    rw [sf_b, sf_b, sf_b, sf_le_eq, sf_le_eq, Bool.cond_decide, Bool.cond_decide, sf_any_eq]
    by_cases h : j.1 ≤ 0
    · rw [if_pos h, if_neg (show ¬ 0 < j.1 by omega)]
    · rw [if_neg h, if_pos (show 0 < j.1 by omega)]
theorem sx_tb_rest {p : Nat → Int} {E : sx_E} (hE : sx_Sat p E) : ∀ (l : List (Nat × Int)) (j : Int × Int), sx_tb E l = some j → ∀ q ∈ l, ∀ i, sx_get E q.1 = some i → (q.2 = 1 → j.1 - i.1 + p q.1 ≤ sx_ts p l) ∧ (q.2 = -1 → j.1 + i.2 - p q.1 ≤ sx_ts p l)
  | [], j, h => by intro q hq; cases hq
  | a :: r, j, h => by
    rw [sx_tb_o] at h
    cases h1 : sx_get E a.1 with
    | none => rw [h1] at h; cases h
    | some i0 =>
      cases h2 : sx_tb E r with
      | none => rw [h1, h2] at h; cases h
      | some m =>
        rw [h1, h2] at h
        have h : (if 0 ≤ a.2 then some (a.2 * i0.1 + m.1, a.2 * i0.2 + m.2) else some (a.2 * i0.2 + m.1, a.2 * i0.1 + m.2)) = some j := h
        obtain ⟨a1, a2⟩ := sx_get_ok hE h1
        obtain ⟨b1, b2⟩ := sx_tb_ok hE r m h2
        intro q hq i hi
        show (q.2 = 1 → j.1 - i.1 + p q.1 ≤ a.2 * p a.1 + sx_ts p r) ∧ (q.2 = -1 → j.1 + i.2 - p q.1 ≤ a.2 * p a.1 + sx_ts p r)
        have hj : j.1 = (if 0 ≤ a.2 then a.2 * i0.1 else a.2 * i0.2) + m.1 ∧ (if 0 ≤ a.2 then a.2 * i0.1 else a.2 * i0.2) ≤ a.2 * p a.1 := by
          by_cases hp : 0 ≤ a.2
          · rw [if_pos hp] at h
            cases h
            rw [if_pos hp]
            exact ⟨rfl, Int.mul_le_mul_of_nonneg_left a1 hp⟩
          · rw [if_neg hp] at h
            cases h
            rw [if_neg hp]
            exact ⟨rfl, Int.mul_le_mul_of_nonpos_left (by omega) a2⟩
        cases List.mem_cons.mp hq with
        | inl e =>
          subst e
          rw [h1] at hi
          cases hi
          constructor
          · intro e
            rw [e] at hj ⊢
            rw [if_pos (by decide)] at hj
            omega
          · intro e
            rw [e] at hj ⊢
            rw [if_neg (by decide)] at hj
            omega
        | inr e =>
          obtain ⟨c1, c2⟩ := sx_tb_rest hE r m h2 q e i hi
          constructor
          · intro e1
            have := c1 e1
            omega
          · intro e1
            have := c2 e1
            omega
theorem sx_nar_ok {p : Nat → Int} {E : sx_E} (hE : sx_Sat p E) (b : Int) : ∀ (l : List (Nat × Int)), (∀ q ∈ l, ∀ i, sx_get E q.1 = some i → (q.2 = 1 → p q.1 ≤ i.1 - b) ∧ (q.2 = -1 → b + i.2 ≤ p q.1)) → sx_Sat p (sx_nar E b l)
  | [], _ => hE
  | a :: r, h => by
    have ih := sx_nar_ok hE b r (fun q hq => h q (List.mem_cons_of_mem _ hq))
    rw [sx_nar_o]
    cases h1 : sx_get E a.1 with
    | none => exact ih
    | some i =>
      obtain ⟨a1, a2⟩ := sx_get_ok hE h1
      obtain ⟨c1, c2⟩ := h a List.mem_cons_self i h1
      show sx_Sat p (if a.2 = 1 then (if i.1 - b < i.2 then (a.1, i.1, i.1 - b) :: sx_nar E b r else sx_nar E b r)
      else if a.2 = -1 then (if i.1 < b + i.2 then (a.1, b + i.2, i.2) :: sx_nar E b r else sx_nar E b r) else sx_nar E b r)
      by_cases e1 : a.2 = 1
      · rw [if_pos e1]
        split
        · intro q hq
          cases List.mem_cons.mp hq with
          | inl e => rw [e]; exact ⟨a1, c1 e1⟩
          | inr e => exact ih q e
        · exact ih
      · rw [if_neg e1]
        by_cases e2 : a.2 = -1
        · rw [if_pos e2]
          split
          · intro q hq
            cases List.mem_cons.mp hq with
            | inl e => rw [e]; exact ⟨c2 e2, a2⟩
            | inr e => exact ih q e
          · exact ih
        · rw [if_neg e2]
          exact ih
theorem sx_nar_lt {n : Nat} {E : sx_E} (hE : ∀ q ∈ E, q.1 < n) (b : Int) : ∀ (l : List (Nat × Int)), (∀ q ∈ l, q.1 < n) → ∀ q ∈ sx_nar E b l, q.1 < n
  | [], _ => hE
  | a :: r, h => by
    have ih := sx_nar_lt hE b r (fun q hq => h q (List.mem_cons_of_mem _ hq))
    have ha := h a List.mem_cons_self
    intro q hq
    rw [sx_nar_o] at hq
    cases h1 : sx_get E a.1 with
    | none => rw [h1] at hq; exact ih q hq
    | some i =>
      rw [h1] at hq
      have hq : q ∈ (if a.2 = 1 then (if i.1 - b < i.2 then (a.1, i.1, i.1 - b) :: sx_nar E b r else sx_nar E b r)
      else if a.2 = -1 then (if i.1 < b + i.2 then (a.1, b + i.2, i.2) :: sx_nar E b r else sx_nar E b r) else sx_nar E b r) := hq
      split at hq
      · split at hq
        · cases List.mem_cons.mp hq with
          | inl e => rw [e]; exact ha
          | inr e => exact ih q e
        · exact ih q hq
      · split at hq
        · split at hq
          · cases List.mem_cons.mp hq with
            | inl e => rw [e]; exact ha
            | inr e => exact ih q e
          · exact ih q hq
        · exact ih q hq
noncomputable def sx_Elt (n : Nat) (E : sx_E) : Prop := ∀ q ∈ E, q.1 < n
noncomputable def sx_Clt (n : Nat) (C : List sx_F) : Prop := ∀ f ∈ C, sx_lt n f
/-- what a supposition must bring -/
noncomputable def sx_Got (p : Nat → Int) (n : Nat) (o : Option (sx_E × List sx_F)) : Prop := ∃ E C, o = some (E, C) ∧ sx_Sat p E ∧ sx_Fok p C ∧ sx_Elt n E ∧ sx_Clt n C
theorem sx_sup_ok {p : Nat → Int} {n : Nat} {E : sx_E} {C : List sx_F} {d : sx_F} (hE : sx_Sat p E) (hC : sx_Fok p C) (hE2 : sx_Elt n E) (hC2 : sx_Clt n C) (hd : sx_lt n d) (h : sx_ev p d ≤ 0) : sx_Got p n (sx_sup E C d) := by
  rw [sx_sup_o]
  cases h1 : sx_bd E d with
  | none => exact ⟨E, C, rfl, hE, hC, hE2, hC2⟩
  | some j =>
    have hb := sx_bd_ok hE h1
    show sx_Got p n (if 0 < j.1 then none else if j.2 ≤ 0 then some (E, C) else bif (C.take 4).any (fun f => sx_lo1 E (sx_add d f) 1) then none else some (sx_nar E j.1 d.2, bif sx_T2 d.2 then d :: C else C))
    rw [if_neg (by omega)]
    by_cases h2 : j.2 ≤ 0
    · rw [if_pos h2]
      exact ⟨E, C, rfl, hE, hC, hE2, hC2⟩
    · rw [if_neg h2]
      have hno : (C.take 4).any (fun f => sx_lo1 E (sx_add d f) 1) = false := by
        cases hb : (C.take 4).any (fun f => sx_lo1 E (sx_add d f) 1) with
        | false => rfl
        | true =>
          exfalso
          rw [List.any_eq_true] at hb
          obtain ⟨f, hf, hb⟩ := hb
          have h3 := sx_lo1_ok hE hb
          rw [sx_add_ev] at h3
          have h4 := hC f (List.mem_of_mem_take hf)
          omega
      rw [hno]
      refine ⟨_, _, rfl, ?_, ?_, ?_, ?_⟩
      · refine sx_nar_ok hE j.1 d.2 (fun q hq i hi => ?_)
        rw [sx_bd_o] at h1
        cases h3 : sx_tb E d.2 with
        | none => rw [h3] at h1; cases h1
        | some m =>
          rw [h3] at h1
          cases h1
          obtain ⟨c1, c2⟩ := sx_tb_rest hE d.2 m h3 q hq i hi
          have h : d.1 + sx_ts p d.2 ≤ 0 := h
          constructor
          · intro e
            have := c1 e
            show p q.1 ≤ i.1 - (d.1 + m.1)
            omega
          · intro e
            have := c2 e
            show d.1 + m.1 + i.2 ≤ p q.1
            omega
      · cases sx_T2 d.2 with
        | true =>
          intro f hf
          cases List.mem_cons.mp hf with
          | inl e => rw [e]; exact h
          | inr e => exact hC f e
        | false => exact hC
      · exact sx_nar_lt hE2 j.1 d.2 hd
      · cases sx_T2 d.2 with
        | true =>
          intro f hf
          cases List.mem_cons.mp hf with
          | inl e => rw [e]; exact hd
          | inr e => exact hC2 f e
        | false => exact hC2
noncomputable def sx_sup2 (E : sx_E) (C : List sx_F) (d d2 : sx_F) : Option (sx_E × List sx_F) := match sx_sup E C d with
  | some q => sx_sup q.1 q.2 d2
  | none => none
theorem sx_sup2_ok {p : Nat → Int} {n : Nat} {E : sx_E} {C : List sx_F} {d d2 : sx_F} (hE : sx_Sat p E) (hC : sx_Fok p C) (hE2 : sx_Elt n E) (hC2 : sx_Clt n C) (hd : sx_lt n d) (hd2 : sx_lt n d2) (h : sx_ev p d ≤ 0) (h2 : sx_ev p d2 ≤ 0) : sx_Got p n (sx_sup2 E C d d2) := by
  obtain ⟨E1, C1, e, a1, a2, a3, a4⟩ := sx_sup_ok hE hC hE2 hC2 hd h
  unfold sx_sup2
  rw [e]
  exact sx_sup_ok a1 a2 a3 a4 hd2 h2
noncomputable def sx_k (k : Int) : sx_F := (k, [])
theorem sx_k_ev (p : Nat → Int) (k : Int) : sx_ev p (sx_k k) = k := by
  show k + 0 = k
  omega
theorem sx_k_lt (n : Nat) (k : Int) : sx_lt n (sx_k k) := by
  intro q hq
  cases hq
/-- d stands to 0 as c says -/
noncomputable def sx_cond (c : Jvm.ClassFile.Cond) (d : Int) : Prop := match c with
  | .eq => d = 0
  | .ne => ¬ d = 0
  | .lt => d < 0
  | .ge => 0 ≤ d
  | .gt => 0 < d
  | .le => d ≤ 0
noncomputable def sx_as (E : sx_E) (C : List sx_F) (c : Jvm.ClassFile.Cond) (d : sx_F) : Option (sx_E × List sx_F) := match c with
  | .eq => sx_sup2 E C d (sx_mul (-1) d)
  | .ne => match sx_bd E d with
    | some j => if j.1 = 0 then sx_sup E C (sx_add (sx_k 1) (sx_mul (-1) d)) else if j.2 = 0 then sx_sup E C (sx_add (sx_k 1) d) else some (E, C)
    | none => some (E, C)
  | .lt => sx_sup E C (sx_add (sx_k 1) d)
  | .ge => sx_sup E C (sx_mul (-1) d)
  | .gt => sx_sup E C (sx_add (sx_k 1) (sx_mul (-1) d))
  | .le => sx_sup E C d
theorem sx_as_ok {p : Nat → Int} {n : Nat} {E : sx_E} {C : List sx_F} {c : Jvm.ClassFile.Cond} {d : sx_F} (hE : sx_Sat p E) (hC : sx_Fok p C) (hE2 : sx_Elt n E) (hC2 : sx_Clt n C) (hd : sx_lt n d) (h : sx_cond c (sx_ev p d)) : sx_Got p n (sx_as E C c d) := by
  have hm : sx_lt n (sx_mul (-1) d) := sx_mul_lt hd
  have h1 : sx_lt n (sx_add (sx_k 1) d) := sx_add_lt (sx_k_lt n 1) hd
  have h2 : sx_lt n (sx_add (sx_k 1) (sx_mul (-1) d)) := sx_add_lt (sx_k_lt n 1) hm
  have e1 : sx_ev p (sx_add (sx_k 1) d) = 1 + sx_ev p d := by rw [sx_add_ev, sx_k_ev]
  have e2 : sx_ev p (sx_mul (-1) d) = - sx_ev p d := by rw [sx_mul_ev]; omega
  have e3 : sx_ev p (sx_add (sx_k 1) (sx_mul (-1) d)) = 1 - sx_ev p d := by rw [sx_add_ev, sx_k_ev, e2]; omega
  cases c with
  | eq =>
    have h : sx_ev p d = 0 := h
    exact sx_sup2_ok hE hC hE2 hC2 hd hm (by omega) (by rw [e2]; omega)
  | ne =>
    have h : ¬ sx_ev p d = 0 := h
    unfold sx_as
    cases hb : sx_bd E d with
    | none => exact ⟨E, C, rfl, hE, hC, hE2, hC2⟩
    | some j =>
      have hj := sx_bd_ok hE hb
      show sx_Got p n (if j.1 = 0 then sx_sup E C (sx_add (sx_k 1) (sx_mul (-1) d)) else if j.2 = 0 then sx_sup E C (sx_add (sx_k 1) d) else some (E, C))
      split
      · exact sx_sup_ok hE hC hE2 hC2 h2 (by rw [e3]; omega)
      · split
        · exact sx_sup_ok hE hC hE2 hC2 h1 (by rw [e1]; omega)
        · exact ⟨E, C, rfl, hE, hC, hE2, hC2⟩
  | lt =>
    have h : sx_ev p d < 0 := h
    exact sx_sup_ok hE hC hE2 hC2 h1 (by rw [e1]; omega)
  | ge =>
    have h : 0 ≤ sx_ev p d := h
    exact sx_sup_ok hE hC hE2 hC2 hm (by rw [e2]; omega)
  | gt =>
    have h : 0 < sx_ev p d := h
    exact sx_sup_ok hE hC hE2 hC2 h2 (by rw [e3]; omega)
  | le => exact sx_sup_ok hE hC hE2 hC2 hd h
noncomputable def sx_neg : Jvm.ClassFile.Cond → Jvm.ClassFile.Cond
  | .eq => .ne
  | .ne => .eq
  | .lt => .ge
  | .ge => .lt
  | .gt => .le
  | .le => .gt
theorem sx_br {c : Jvm.ClassFile.Cond} {x y : Int32} : (pq_br c x y = true → sx_cond c (x.toInt - y.toInt)) ∧ (pq_br c x y = false → sx_cond (sx_neg c) (x.toInt - y.toInt)) := by
  cases c <;> constructor <;> intro h
  · have h : x = y := of_decide_eq_true h
    show x.toInt - y.toInt = 0
    rw [h]; omega
  · have h : ¬ x = y := of_decide_eq_false h
    show ¬ x.toInt - y.toInt = 0
    intro h2
    exact h (Int32.toInt_inj.mp (by omega))
  · have h : ¬ x = y := of_decide_eq_true h
    show ¬ x.toInt - y.toInt = 0
    intro h2
    exact h (Int32.toInt_inj.mp (by omega))
  · have h : ¬ ¬ x = y := of_decide_eq_false h
    show x.toInt - y.toInt = 0
    rw [Classical.not_not.mp h]; omega
  · have h := Int32.lt_iff_toInt_lt.mp (of_decide_eq_true h : x < y)
    show x.toInt - y.toInt < 0
    omega
  · have h : ¬ x.toInt < y.toInt := fun z => (of_decide_eq_false h : ¬ x < y) (Int32.lt_iff_toInt_lt.mpr z)
    show 0 ≤ x.toInt - y.toInt
    omega
  · have h := Int32.le_iff_toInt_le.mp (of_decide_eq_true h : y ≤ x)
    show 0 ≤ x.toInt - y.toInt
    omega
  · have h : ¬ y.toInt ≤ x.toInt := fun z => (of_decide_eq_false h : ¬ y ≤ x) (Int32.le_iff_toInt_le.mpr z)
    show x.toInt - y.toInt < 0
    omega
  · have h := Int32.lt_iff_toInt_lt.mp (of_decide_eq_true h : y < x)
    show 0 < x.toInt - y.toInt
    omega
  · have h : ¬ y.toInt < x.toInt := fun z => (of_decide_eq_false h : ¬ y < x) (Int32.lt_iff_toInt_lt.mpr z)
    show x.toInt - y.toInt ≤ 0
    omega
  · have h := Int32.le_iff_toInt_le.mp (of_decide_eq_true h : x ≤ y)
    show x.toInt - y.toInt ≤ 0
    omega
  · have h : ¬ x.toInt ≤ y.toInt := fun z => (of_decide_eq_false h : ¬ x ≤ y) (Int32.le_iff_toInt_le.mpr z)
    show 0 < x.toInt - y.toInt
    omega
/-! values: i an int, l a long, s the sign of a form (what lcmp gives), r a cell -/
abbrev sx_V : Type := (sx_F ⊕ sx_F) ⊕ (sx_F ⊕ Nat)
noncomputable def sx_sg (d : Int) : Int := if 0 < d then 1 else if d = 0 then 0 else -1
noncomputable def sx_d (p : Nat → Int) : sx_V → Value → Prop
  | .inl (.inl e), .int x => x.toInt = sx_ev p e
  | .inl (.inr e), .long x => x.toInt = sx_ev p e
  | .inr (.inl e), .int x => x.toInt = sx_sg (sx_ev p e)
  | .inr (.inr n), .ref m => m = n
  | _, _ => False
noncomputable def sx_vlt (n : Nat) : sx_V → Prop
  | .inl (.inl e) => sx_lt n e
  | .inl (.inr e) => sx_lt n e
  | .inr (.inl e) => sx_lt n e
  | .inr (.inr _) => True
theorem sx_d_agree {p p' : Nat → Int} {n : Nat} (h : ∀ s, s < n → p' s = p s) {v : sx_V} (hv : sx_vlt n v) {x : Value} (hx : sx_d p v x) : sx_d p' v x := by
  rcases v with (e | e) | (e | k) <;> cases x <;> first | exact hx.elim | skip
  · show _ = _
    rw [sx_ev_agree h hv]; exact hx
  · show _ = _
    rw [sx_ev_agree h hv]; exact hx
  · show _ = _
    rw [sx_ev_agree h hv]; exact hx
  · exact hx
noncomputable def sx_b31 : Int := 2147483648
noncomputable def sx_b63 : Int := 9223372036854775808
/-- what an operation gives: a value, or a new symbol in an interval -/
abbrev sx_Q : Type := sx_V ⊕ (Bool × Int × Int)
noncomputable def sx_Qok (p : Nat → Int) (q : sx_Q) (x : Value) : Prop := match q with
  | .inl z => sx_d p z x
  | .inr (false, lo, hi) => ∃ y : Int32, x = .int y ∧ lo ≤ y.toInt ∧ y.toInt ≤ hi
  | .inr (true, lo, hi) => ∃ y : Int64, x = .long y ∧ lo ≤ y.toInt ∧ y.toInt ≤ hi
noncomputable def sx_Qlt (n : Nat) (q : sx_Q) : Prop := match q with
  | .inl z => sx_vlt n z
  | _ => True
noncomputable def sx_Qi (E : sx_E) (C : List sx_F) (e : sx_F) : sx_Q := bif sx_in E C e (-sx_b31) (sx_b31 - 1) then .inl (.inl (.inl e)) else .inr (false, (-sx_b31), (sx_b31 - 1))
noncomputable def sx_Ql (E : sx_E) (C : List sx_F) (e : sx_F) : sx_Q := bif sx_in E C e (-sx_b63) (sx_b63 - 1) then .inl (.inl (.inr e)) else .inr (true, (-sx_b63), (sx_b63 - 1))
theorem sx_i32 (x : Int32) : -sx_b31 ≤ x.toInt ∧ x.toInt ≤ sx_b31 - 1 := by
  have h1 := Int32.le_toInt x
  have h2 := Int32.toInt_lt x
  unfold sx_b31
  omega
theorem sx_i64 (x : Int64) : -sx_b63 ≤ x.toInt ∧ x.toInt ≤ sx_b63 - 1 := by
  have h1 := Int64.le_toInt x
  have h2 := Int64.toInt_lt x
  unfold sx_b63
  omega
theorem sx_bm32 {a : Int} (h1 : -sx_b31 ≤ a) (h2 : a ≤ sx_b31 - 1) : a.bmod (2 ^ 32) = a := by
  unfold sx_b31 at h1 h2
  exact Int.bmod_eq_of_le (by omega) (by omega)
theorem sx_bm64 {a : Int} (h1 : -sx_b63 ≤ a) (h2 : a ≤ sx_b63 - 1) : a.bmod (2 ^ 64) = a := by
  unfold sx_b63 at h1 h2
  exact Int.bmod_eq_of_le (by omega) (by omega)
theorem sx_Qi_ok {p : Nat → Int} {E : sx_E} {C : List sx_F} (hE : sx_Sat p E) (hC : sx_Fok p C) {e : sx_F} {x : Int32} (h : x.toInt = (sx_ev p e).bmod (2 ^ 32)) : sx_Qok p (sx_Qi E C e) (.int x) := by
  unfold sx_Qi
  cases hb : sx_in E C e (-sx_b31) (sx_b31 - 1) with
  | true =>
    obtain ⟨h1, h2⟩ := sx_in_ok hE hC hb
    show x.toInt = sx_ev p e
    rw [h, sx_bm32 h1 h2]
  | false => exact ⟨x, rfl, (sx_i32 x).1, (sx_i32 x).2⟩
theorem sx_Ql_ok {p : Nat → Int} {E : sx_E} {C : List sx_F} (hE : sx_Sat p E) (hC : sx_Fok p C) {e : sx_F} {x : Int64} (h : x.toInt = (sx_ev p e).bmod (2 ^ 64)) : sx_Qok p (sx_Ql E C e) (.long x) := by
  unfold sx_Ql
  cases hb : sx_in E C e (-sx_b63) (sx_b63 - 1) with
  | true =>
    obtain ⟨h1, h2⟩ := sx_in_ok hE hC hb
    show x.toInt = sx_ev p e
    rw [h, sx_bm64 h1 h2]
  | false => exact ⟨x, rfl, (sx_i64 x).1, (sx_i64 x).2⟩
theorem sx_Qi_lt {n : Nat} {E : sx_E} {C : List sx_F} {e : sx_F} (h : sx_lt n e) : sx_Qlt n (sx_Qi E C e) := by
  unfold sx_Qi
  cases sx_in E C e (-sx_b31) (sx_b31 - 1) with
  | true => exact h
  | false => trivial
theorem sx_Ql_lt {n : Nat} {E : sx_E} {C : List sx_F} {e : sx_F} (h : sx_lt n e) : sx_Qlt n (sx_Ql E C e) := by
  unfold sx_Ql
  cases sx_in E C e (-sx_b63) (sx_b63 - 1) with
  | true => exact h
  | false => trivial
/-- the least and most of a product of two intervals -/
noncomputable def sx_pr (i j : Int × Int) : Int × Int := (min (min (i.1 * j.1) (i.1 * j.2)) (min (i.2 * j.1) (i.2 * j.2)), max (max (i.1 * j.1) (i.1 * j.2)) (max (i.2 * j.1) (i.2 * j.2)))
theorem sx_pr_ok {i j : Int × Int} {x y : Int} (hx : i.1 ≤ x ∧ x ≤ i.2) (hy : j.1 ≤ y ∧ y ≤ j.2) : (sx_pr i j).1 ≤ x * y ∧ x * y ≤ (sx_pr i j).2 := by
  have k1 : min (i.1 * y) (i.2 * y) ≤ x * y ∧ x * y ≤ max (i.1 * y) (i.2 * y) := by
    by_cases h : 0 ≤ y
    · have a1 : i.1 * y ≤ x * y := Int.mul_le_mul_of_nonneg_right hx.1 h
      have a2 : x * y ≤ i.2 * y := Int.mul_le_mul_of_nonneg_right hx.2 h
      omega
    · have a1 : x * y ≤ i.1 * y := Int.mul_le_mul_of_nonpos_right hx.1 (by omega)
      have a2 : i.2 * y ≤ x * y := Int.mul_le_mul_of_nonpos_right hx.2 (by omega)
      omega
  have k2 : ∀ c : Int, min (c * j.1) (c * j.2) ≤ c * y ∧ c * y ≤ max (c * j.1) (c * j.2) := by
    intro c
    by_cases h : 0 ≤ c
    · have a1 : c * j.1 ≤ c * y := Int.mul_le_mul_of_nonneg_left hy.1 h
      have a2 : c * y ≤ c * j.2 := Int.mul_le_mul_of_nonneg_left hy.2 h
      omega
    · have a1 : c * y ≤ c * j.1 := Int.mul_le_mul_of_nonpos_left (by omega) hy.1
      have a2 : c * j.2 ≤ c * y := Int.mul_le_mul_of_nonpos_left (by omega) hy.2
      omega
  have c1 := k2 i.1
  have c2 := k2 i.2
  unfold sx_pr
  show min (min (i.1 * j.1) (i.1 * j.2)) (min (i.2 * j.1) (i.2 * j.2)) ≤ x * y ∧ x * y ≤ max (max (i.1 * j.1) (i.1 * j.2)) (max (i.2 * j.1) (i.2 * j.2))
  omega
noncomputable def sx_c? (e : sx_F) : Option Int := match e.2 with
  | [] => some e.1
  | _ => none
theorem sx_c?_ok {p : Nat → Int} {e : sx_F} {k : Int} (h : sx_c? e = some k) : sx_ev p e = k := by
  unfold sx_c? at h
  cases h1 : e.2 with
  | nil =>
    rw [h1] at h
    cases h
    unfold sx_ev
    rw [h1]
    show e.1 + 0 = e.1
    omega
  | cons a b => rw [h1] at h; cases h
/-- a product: of a number and a form, else of intervals; w: how wide (31 or 63) -/
noncomputable def sx_Qm (isL : Bool) (E : sx_E) (C : List sx_F) (a b : sx_F) : sx_Q :=
  match sx_c? a, sx_c? b with
  | some k, _ => bif isL then sx_Ql E C (sx_mul k b) else sx_Qi E C (sx_mul k b)
  | none, some k => bif isL then sx_Ql E C (sx_mul k a) else sx_Qi E C (sx_mul k a)
  | none, none => match sx_bd E a, sx_bd E b with
    | some i, some j => bif isL then (bif sx_le (-sx_b63) (sx_pr i j).1 && sx_le (sx_pr i j).2 (sx_b63 - 1) then .inr (true, (sx_pr i j).1, (sx_pr i j).2) else .inr (true, (-sx_b63), (sx_b63 - 1))) else (bif sx_le (-sx_b31) (sx_pr i j).1 && sx_le (sx_pr i j).2 (sx_b31 - 1) then .inr (false, (sx_pr i j).1, (sx_pr i j).2) else .inr (false, (-sx_b31), (sx_b31 - 1)))
    | _, _ => bif isL then .inr (true, (-sx_b63), (sx_b63 - 1)) else .inr (false, (-sx_b31), (sx_b31 - 1))
theorem sx_Qm_i {p : Nat → Int} {E : sx_E} {C : List sx_F} (hE : sx_Sat p E) (hC : sx_Fok p C) {a b : sx_F} {x y : Int32} (hx : x.toInt = sx_ev p a) (hy : y.toInt = sx_ev p b) : sx_Qok p (sx_Qm false E C a b) (.int (x * y)) := by
  have hm : (x * y).toInt = (sx_ev p a * sx_ev p b).bmod (2 ^ 32) := by rw [Int32.toInt_mul, hx, hy]
  unfold sx_Qm
  cases h1 : sx_c? a with
  | some k =>
    refine sx_Qi_ok hE hC ?_
    rw [hm, sx_mul_ev, sx_c?_ok h1]
  | none =>
    cases h2 : sx_c? b with
    | some k =>
      refine sx_Qi_ok hE hC ?_
      rw [hm, sx_mul_ev, sx_c?_ok h2, Int.mul_comm]
    | none =>
      show sx_Qok p (match sx_bd E a, sx_bd E b with
        | some i, some j => (bif sx_le (-sx_b31) (sx_pr i j).1 && sx_le (sx_pr i j).2 (sx_b31 - 1) then .inr (false, (sx_pr i j).1, (sx_pr i j).2) else .inr (false, (-sx_b31), (sx_b31 - 1)))
        | _, _ => .inr (false, (-sx_b31), (sx_b31 - 1))) (.int (x * y))
      have full : sx_Qok p (.inr (false, (-sx_b31), (sx_b31 - 1))) (.int (x * y)) := ⟨_, rfl, (sx_i32 _).1, (sx_i32 _).2⟩
      cases h3 : sx_bd E a with
      | none => exact full
      | some i =>
        cases h4 : sx_bd E b with
        | none => exact full
        | some j =>
          show sx_Qok p (bif sx_le (-sx_b31) (sx_pr i j).1 && sx_le (sx_pr i j).2 (sx_b31 - 1) then .inr (false, (sx_pr i j).1, (sx_pr i j).2) else .inr (false, (-sx_b31), (sx_b31 - 1))) (.int (x * y))
          cases hb : sx_le (-sx_b31) (sx_pr i j).1 && sx_le (sx_pr i j).2 (sx_b31 - 1) with
          | false => exact full
          | true =>
            rw [Bool.and_eq_true] at hb
            have g1 : -sx_b31 ≤ (sx_pr i j).1 := sx_leT hb.1
            have g2 : (sx_pr i j).2 ≤ sx_b31 - 1 := sx_leT hb.2
            obtain ⟨c1, c2⟩ := sx_pr_ok (sx_bd_ok hE h3) (sx_bd_ok hE h4)
            refine ⟨_, rfl, ?_, ?_⟩ <;> rw [hm, sx_bm32 (by omega) (by omega)] <;> assumption
theorem sx_Qm_l {p : Nat → Int} {E : sx_E} {C : List sx_F} (hE : sx_Sat p E) (hC : sx_Fok p C) {a b : sx_F} {x y : Int64} (hx : x.toInt = sx_ev p a) (hy : y.toInt = sx_ev p b) : sx_Qok p (sx_Qm true E C a b) (.long (x * y)) := by
  have hm : (x * y).toInt = (sx_ev p a * sx_ev p b).bmod (2 ^ 64) := by rw [Int64.toInt_mul, hx, hy]
  unfold sx_Qm
  cases h1 : sx_c? a with
  | some k =>
    refine sx_Ql_ok hE hC ?_
    rw [hm, sx_mul_ev, sx_c?_ok h1]
  | none =>
    cases h2 : sx_c? b with
    | some k =>
      refine sx_Ql_ok hE hC ?_
      rw [hm, sx_mul_ev, sx_c?_ok h2, Int.mul_comm]
    | none =>
      show sx_Qok p (match sx_bd E a, sx_bd E b with
        | some i, some j => (bif sx_le (-sx_b63) (sx_pr i j).1 && sx_le (sx_pr i j).2 (sx_b63 - 1) then .inr (true, (sx_pr i j).1, (sx_pr i j).2) else .inr (true, (-sx_b63), (sx_b63 - 1)))
        | _, _ => .inr (true, (-sx_b63), (sx_b63 - 1))) (.long (x * y))
      have full : sx_Qok p (.inr (true, (-sx_b63), (sx_b63 - 1))) (.long (x * y)) := ⟨_, rfl, (sx_i64 _).1, (sx_i64 _).2⟩
      cases h3 : sx_bd E a with
      | none => exact full
      | some i =>
        cases h4 : sx_bd E b with
        | none => exact full
        | some j =>
          show sx_Qok p (bif sx_le (-sx_b63) (sx_pr i j).1 && sx_le (sx_pr i j).2 (sx_b63 - 1) then .inr (true, (sx_pr i j).1, (sx_pr i j).2) else .inr (true, (-sx_b63), (sx_b63 - 1))) (.long (x * y))
          cases hb : sx_le (-sx_b63) (sx_pr i j).1 && sx_le (sx_pr i j).2 (sx_b63 - 1) with
          | false => exact full
          | true =>
            rw [Bool.and_eq_true] at hb
            have g1 : -sx_b63 ≤ (sx_pr i j).1 := sx_leT hb.1
            have g2 : (sx_pr i j).2 ≤ sx_b63 - 1 := sx_leT hb.2
            obtain ⟨c1, c2⟩ := sx_pr_ok (sx_bd_ok hE h3) (sx_bd_ok hE h4)
            refine ⟨_, rfl, ?_, ?_⟩ <;> rw [hm, sx_bm64 (by omega) (by omega)] <;> assumption
theorem sx_Qm_lt {n : Nat} {L : Bool} {E : sx_E} {C : List sx_F} {a b : sx_F} (ha : sx_lt n a) (hb : sx_lt n b) : sx_Qlt n (sx_Qm L E C a b) := by
  unfold sx_Qm
  cases h1 : sx_c? a with
  | some k => cases L; exact sx_Qi_lt (sx_mul_lt hb); exact sx_Ql_lt (sx_mul_lt hb)
  | none =>
    cases h2 : sx_c? b with
    | some k => cases L; exact sx_Qi_lt (sx_mul_lt ha); exact sx_Ql_lt (sx_mul_lt ha)
    | none =>
      show sx_Qlt n (match sx_bd E a, sx_bd E b with
        | some i, some j => bif L then (bif sx_le (-sx_b63) (sx_pr i j).1 && sx_le (sx_pr i j).2 (sx_b63 - 1) then .inr (true, (sx_pr i j).1, (sx_pr i j).2) else .inr (true, (-sx_b63), (sx_b63 - 1))) else (bif sx_le (-sx_b31) (sx_pr i j).1 && sx_le (sx_pr i j).2 (sx_b31 - 1) then .inr (false, (sx_pr i j).1, (sx_pr i j).2) else .inr (false, (-sx_b31), (sx_b31 - 1)))
        | _, _ => bif L then .inr (true, (-sx_b63), (sx_b63 - 1)) else .inr (false, (-sx_b31), (sx_b31 - 1)))
      cases sx_bd E a with
      | none => cases L <;> trivial
      | some i =>
        cases sx_bd E b with
        | none => cases L <;> trivial
        | some j =>
          cases L
          · show sx_Qlt n (bif sx_le (-sx_b31) (sx_pr i j).1 && sx_le (sx_pr i j).2 (sx_b31 - 1) then .inr (false, (sx_pr i j).1, (sx_pr i j).2) else .inr (false, (-sx_b31), (sx_b31 - 1)))
            cases sx_le (-sx_b31) (sx_pr i j).1 && sx_le (sx_pr i j).2 (sx_b31 - 1) <;> trivial
          · show sx_Qlt n (bif sx_le (-sx_b63) (sx_pr i j).1 && sx_le (sx_pr i j).2 (sx_b63 - 1) then .inr (true, (sx_pr i j).1, (sx_pr i j).2) else .inr (true, (-sx_b63), (sx_b63 - 1)))
            cases sx_le (-sx_b63) (sx_pr i j).1 && sx_le (sx_pr i j).2 (sx_b63 - 1) <;> trivial
/-! division, remainder, and, the other operations -/
theorem sx_tdiv_le {a b : Int} (hb : 0 < b) : (0 ≤ a → 0 ≤ a.tdiv b ∧ a.tdiv b ≤ a) ∧ (a ≤ 0 → a ≤ a.tdiv b ∧ a.tdiv b ≤ 0) := by
  have h1 : ∀ c : Int, 0 ≤ c → 0 ≤ c.tdiv b ∧ c.tdiv b ≤ c := by
    intro c hc
    refine ⟨Int.tdiv_nonneg hc (by omega), ?_⟩
    have h2 := Int.natAbs_tdiv_le_natAbs c b
    have h3 := Int.tdiv_nonneg hc (Int.le_of_lt hb)
    omega
  refine ⟨h1 a, fun h => ?_⟩
  have h2 := h1 (-a) (by omega)
  rw [Int.neg_tdiv] at h2
  omega
noncomputable def sx_dv (i : Int × Int) (j : Int × Int) : Int × Int := if j.1 = j.2 then (i.1.tdiv j.1, i.2.tdiv j.1) else (if 0 ≤ i.1 then 0 else i.1, if i.2 ≤ 0 then 0 else i.2)
theorem sx_dv_ok {i j : Int × Int} {a b : Int} (ha : i.1 ≤ a ∧ a ≤ i.2) (hb : j.1 ≤ b ∧ b ≤ j.2) (hp : 0 < j.1) : (sx_dv i j).1 ≤ a.tdiv b ∧ a.tdiv b ≤ (sx_dv i j).2 := by
  unfold sx_dv
  by_cases e : j.1 = j.2
  · rw [if_pos e]
    have e2 : b = j.1 := by omega
    rw [e2]
    exact ⟨Int.tdiv_le_tdiv hp ha.1, Int.tdiv_le_tdiv hp ha.2⟩
  · rw [if_neg e]
    obtain ⟨h1, h2⟩ := @sx_tdiv_le a b (by omega)
    show (if 0 ≤ i.1 then 0 else i.1) ≤ a.tdiv b ∧ a.tdiv b ≤ (if i.2 ≤ 0 then 0 else i.2)
    by_cases h : 0 ≤ a
    · have h3 := h1 h
      constructor
      · split <;> omega
      · split <;> omega
    · have h3 := h2 (by omega)
      constructor
      · split <;> omega
      · split <;> omega
noncomputable def sx_rm (i : Int × Int) (j : Int × Int) : Int × Int := if 0 ≤ i.1 then (0, if i.2 ≤ j.2 - 1 then i.2 else j.2 - 1) else (1 - j.2, j.2 - 1)
theorem sx_rm_ok {i j : Int × Int} {a b : Int} (ha : i.1 ≤ a ∧ a ≤ i.2) (hb : j.1 ≤ b ∧ b ≤ j.2) (hp : 0 < j.1) : (sx_rm i j).1 ≤ a.tmod b ∧ a.tmod b ≤ (sx_rm i j).2 := by
  have h1 := Int.tmod_lt_of_pos a (show 0 < b by omega)
  have h2 := Int.tmod_lt_of_pos (-a) (show 0 < b by omega)
  rw [Int.neg_tmod] at h2
  have h3 : 0 ≤ a → 0 ≤ a.tmod b ∧ a.tmod b ≤ a := by
    intro h
    refine ⟨Int.tmod_nonneg b h, ?_⟩
    have h4 := (@sx_tdiv_le a b (by omega)).1 h
    have h5 := Int.tmod_def a b
    have h6 : 0 ≤ b * a.tdiv b := Int.mul_nonneg (by omega) h4.1
    omega
  unfold sx_rm
  by_cases e : 0 ≤ i.1
  · rw [if_pos e]
    have h4 := h3 (by omega)
    show 0 ≤ a.tmod b ∧ a.tmod b ≤ (if i.2 ≤ j.2 - 1 then i.2 else j.2 - 1)
    refine ⟨h4.1, ?_⟩
    split <;> omega
  · rw [if_neg e]
    show 1 - j.2 ≤ a.tmod b ∧ a.tmod b ≤ j.2 - 1
    omega
theorem sx_tdb {a b : Int} (hb : 0 < b) {B : Int} (hB : 0 ≤ B) (h1 : -B ≤ a) (h2 : a ≤ B - 1) : -B ≤ a.tdiv b ∧ a.tdiv b ≤ B - 1 ∧ -B ≤ a.tdiv b * b ∧ a.tdiv b * b ≤ B - 1 ∧ a - a.tdiv b * b = a.tmod b := by
  obtain ⟨k1, k2⟩ := @sx_tdiv_le a b hb
  have h5 := Int.tmod_def a b
  rw [Int.mul_comm] at h5
  have h6 := Int.tmod_lt_of_pos a hb
  have h7 := Int.tmod_lt_of_pos (-a) hb
  rw [Int.neg_tmod] at h7
  by_cases h : 0 ≤ a
  · have h3 := k1 h
    have h8 := Int.tmod_nonneg b h
    have h9 : 0 ≤ a.tdiv b * b := Int.mul_nonneg h3.1 (by omega)
    omega
  · have h3 := k2 (by omega)
    have h8 := Int.tmod_nonneg b (show 0 ≤ -a by omega)
    rw [Int.neg_tmod] at h8
    have h9 : a.tdiv b * b ≤ 0 := by
      have := Int.mul_nonneg (show 0 ≤ -(a.tdiv b) by omega) (show 0 ≤ b by omega)
      rw [Int.neg_mul] at this
      omega
    omega
noncomputable def sx_z (isL : Bool) (lo hi : Int) : sx_Q := bif isL then .inr (true, lo, hi) else .inr (false, lo, hi)
noncomputable def sx_zf (isL : Bool) : sx_Q := bif isL then .inr (true, (-sx_b63), (sx_b63 - 1)) else .inr (false, (-sx_b31), (sx_b31 - 1))
/-- a quotient (r false) or a remainder -/
noncomputable def sx_Qd (isL r : Bool) (E : sx_E) (a b : sx_F) : Option sx_Q := match sx_bd E a, sx_bd E b with
  | some i, some j => if 0 < j.1 then some (bif r then sx_z isL (sx_rm i j).1 (sx_rm i j).2 else sx_z isL (sx_dv i j).1 (sx_dv i j).2) else if j.2 < 0 then some (sx_zf isL) else none
  | _, _ => none
theorem sx_Qd_lt {n : Nat} {L r : Bool} {E : sx_E} {a b : sx_F} {q : sx_Q} (h : sx_Qd L r E a b = some q) : sx_Qlt n q := by
  unfold sx_Qd at h
  cases h1 : sx_bd E a with
  | none => rw [h1] at h; cases h
  | some i =>
    cases h2 : sx_bd E b with
    | none => rw [h1, h2] at h; cases h
    | some j =>
      rw [h1, h2] at h
      have h : (if 0 < j.1 then some (bif r then sx_z L (sx_rm i j).1 (sx_rm i j).2 else sx_z L (sx_dv i j).1 (sx_dv i j).2) else if j.2 < 0 then some (sx_zf L) else none) = some q := h
      split at h
      · cases h
        cases r <;> cases L <;> trivial
      · split at h
        · cases h
          cases L <;> trivial
        · cases h
theorem sx_nz32 {y : Int32} (h : ¬ y.toInt = 0) : ¬ y = 0 := fun e => h (by rw [e]; rfl)
theorem sx_nz64 {y : Int64} (h : ¬ y.toInt = 0) : ¬ y = 0 := fun e => h (by rw [e]; rfl)
theorem sx_Qd_i {p : Nat → Int} {r : Bool} {E : sx_E} (hE : sx_Sat p E) {a b : sx_F} {x y : Int32} {q : sx_Q} (hx : x.toInt = sx_ev p a) (hy : y.toInt = sx_ev p b) (h : sx_Qd false r E a b = some q) : ¬ y = 0 ∧ sx_Qok p q (.int (bif r then x - x / y * y else x / y)) := by
  unfold sx_Qd at h
  cases h1 : sx_bd E a with
  | none => rw [h1] at h; cases h
  | some i =>
    cases h2 : sx_bd E b with
    | none => rw [h1, h2] at h; cases h
    | some j =>
      rw [h1, h2] at h
      have h : (if 0 < j.1 then some (bif r then sx_z false (sx_rm i j).1 (sx_rm i j).2 else sx_z false (sx_dv i j).1 (sx_dv i j).2) else if j.2 < 0 then some (sx_zf false) else none) = some q := h
      have a1 := sx_bd_ok hE h1
      have a2 := sx_bd_ok hE h2
      rw [← hx] at a1
      rw [← hy] at a2
      split at h
      · rename_i hp
        cases h
        refine ⟨sx_nz32 (by omega), ?_⟩
        have rx := sx_i32 x
        obtain ⟨t1, t2, t3, t4, t5⟩ := @sx_tdb x.toInt y.toInt (by omega) sx_b31 (by decide) rx.1 rx.2
        have e1 : (x / y).toInt = x.toInt.tdiv y.toInt := by rw [Int32.toInt_div, sx_bm32 t1 t2]
        cases r with
        | false =>
          refine ⟨_, rfl, ?_⟩
          show (sx_dv i j).1 ≤ (x / y).toInt ∧ (x / y).toInt ≤ (sx_dv i j).2
          rw [e1]
          exact sx_dv_ok a1 a2 hp
        | true =>
          refine ⟨_, rfl, ?_⟩
          show (sx_rm i j).1 ≤ (x - x / y * y).toInt ∧ (x - x / y * y).toInt ≤ (sx_rm i j).2
          have e2 : (x - x / y * y).toInt = x.toInt.tmod y.toInt := by
            rw [Int32.toInt_sub, Int32.toInt_mul, e1, sx_bm32 t3 t4, t5]
            have h3 := sx_rm_ok (i := (-sx_b31, sx_b31 - 1)) (j := (1, sx_b31)) rx (a := x.toInt) (b := y.toInt) ⟨by show 1 ≤ y.toInt; omega, by have := (sx_i32 y).2; show y.toInt ≤ sx_b31; omega⟩ (by decide)
            exact sx_bm32 (by have := h3.1; unfold sx_rm sx_b31 at this; rw [if_neg (by decide)] at this; unfold sx_b31; omega) (by have := h3.2; unfold sx_rm sx_b31 at this; rw [if_neg (by decide)] at this; unfold sx_b31; omega)
          rw [e2]
          exact sx_rm_ok a1 a2 hp
      · split at h
        · cases h
          refine ⟨sx_nz32 (by omega), ?_⟩
          exact ⟨_, rfl, (sx_i32 _).1, (sx_i32 _).2⟩
        · cases h
theorem sx_Qd_l {p : Nat → Int} {r : Bool} {E : sx_E} (hE : sx_Sat p E) {a b : sx_F} {x y : Int64} {q : sx_Q} (hx : x.toInt = sx_ev p a) (hy : y.toInt = sx_ev p b) (h : sx_Qd true r E a b = some q) : ¬ y = 0 ∧ sx_Qok p q (.long (bif r then x - x / y * y else x / y)) := by
  unfold sx_Qd at h
  cases h1 : sx_bd E a with
  | none => rw [h1] at h; cases h
  | some i =>
    cases h2 : sx_bd E b with
    | none => rw [h1, h2] at h; cases h
    | some j =>
      rw [h1, h2] at h
      have h : (if 0 < j.1 then some (bif r then sx_z true (sx_rm i j).1 (sx_rm i j).2 else sx_z true (sx_dv i j).1 (sx_dv i j).2) else if j.2 < 0 then some (sx_zf true) else none) = some q := h
      have a1 := sx_bd_ok hE h1
      have a2 := sx_bd_ok hE h2
      rw [← hx] at a1
      rw [← hy] at a2
      split at h
      · rename_i hp
        cases h
        refine ⟨sx_nz64 (by omega), ?_⟩
        have rx := sx_i64 x
        obtain ⟨t1, t2, t3, t4, t5⟩ := @sx_tdb x.toInt y.toInt (by omega) sx_b63 (by decide) rx.1 rx.2
        have e1 : (x / y).toInt = x.toInt.tdiv y.toInt := by rw [Int64.toInt_div, sx_bm64 t1 t2]
        cases r with
        | false =>
          refine ⟨_, rfl, ?_⟩
          show (sx_dv i j).1 ≤ (x / y).toInt ∧ (x / y).toInt ≤ (sx_dv i j).2
          rw [e1]
          exact sx_dv_ok a1 a2 hp
        | true =>
          refine ⟨_, rfl, ?_⟩
          show (sx_rm i j).1 ≤ (x - x / y * y).toInt ∧ (x - x / y * y).toInt ≤ (sx_rm i j).2
          have e2 : (x - x / y * y).toInt = x.toInt.tmod y.toInt := by
            rw [Int64.toInt_sub, Int64.toInt_mul, e1, sx_bm64 t3 t4, t5]
            have h3 := sx_rm_ok (i := (-sx_b63, sx_b63 - 1)) (j := (1, sx_b63)) rx (a := x.toInt) (b := y.toInt) ⟨by show 1 ≤ y.toInt; omega, by have := (sx_i64 y).2; show y.toInt ≤ sx_b63; omega⟩ (by decide)
            exact sx_bm64 (by have := h3.1; unfold sx_rm sx_b63 at this; rw [if_neg (by decide)] at this; unfold sx_b63; omega) (by have := h3.2; unfold sx_rm sx_b63 at this; rw [if_neg (by decide)] at this; unfold sx_b63; omega)
          rw [e2]
          exact sx_rm_ok a1 a2 hp
      · split at h
        · cases h
          refine ⟨sx_nz64 (by omega), ?_⟩
          exact ⟨_, rfl, (sx_i64 _).1, (sx_i64 _).2⟩
        · cases h
theorem sx_and32 {x y : Int32} (h : 0 ≤ y.toInt) : 0 ≤ (x &&& y).toInt ∧ (x &&& y).toInt ≤ y.toInt := by
  have e1 : (x &&& y).toInt = (x.toBitVec &&& y.toBitVec).toInt := rfl
  have e2 : y.toInt = y.toBitVec.toInt := rfl
  have h2 := Int32.toInt_lt y
  rw [e2] at h h2
  have h3 : (y.toBitVec.toNat : Int) = y.toBitVec.toInt := by
    rw [BitVec.toInt_eq_toNat_cond] at h h2 ⊢
    split at h
    · rw [if_pos (by assumption)]
    · exfalso
      have := y.toBitVec.isLt
      omega
  have h4 : x.toBitVec.toNat &&& y.toBitVec.toNat ≤ y.toBitVec.toNat := Nat.and_le_right
  rw [e1, e2, BitVec.toInt_and, Int.bmod_eq_of_le (by omega) (by omega)]
  omega
theorem sx_and64 {x y : Int64} (h : 0 ≤ y.toInt) : 0 ≤ (x &&& y).toInt ∧ (x &&& y).toInt ≤ y.toInt := by
  have e1 : (x &&& y).toInt = (x.toBitVec &&& y.toBitVec).toInt := rfl
  have e2 : y.toInt = y.toBitVec.toInt := rfl
  have h2 := Int64.toInt_lt y
  rw [e2] at h h2
  have h3 : (y.toBitVec.toNat : Int) = y.toBitVec.toInt := by
    rw [BitVec.toInt_eq_toNat_cond] at h h2 ⊢
    split at h
    · rw [if_pos (by assumption)]
    · exfalso
      have := y.toBitVec.isLt
      omega
  have h4 : x.toBitVec.toNat &&& y.toBitVec.toNat ≤ y.toBitVec.toNat := Nat.and_le_right
  rw [e1, e2, BitVec.toInt_and, Int.bmod_eq_of_le (by omega) (by omega)]
  omega
noncomputable def sx_Qa (isL : Bool) (E : sx_E) (b : sx_F) : sx_Q := match sx_bd E b with
  | some j => if 0 ≤ j.1 then sx_z isL 0 j.2 else sx_zf isL
  | none => sx_zf isL
theorem sx_Qa_lt {n : Nat} {L : Bool} {E : sx_E} {b : sx_F} : sx_Qlt n (sx_Qa L E b) := by
  unfold sx_Qa
  cases sx_bd E b with
  | none => cases L <;> trivial
  | some j =>
    show sx_Qlt n (if 0 ≤ j.1 then sx_z L 0 j.2 else sx_zf L)
    split <;> cases L <;> trivial
theorem sx_Qa_i {p : Nat → Int} {E : sx_E} (hE : sx_Sat p E) {b : sx_F} {x y : Int32} (hy : y.toInt = sx_ev p b) : sx_Qok p (sx_Qa false E b) (.int (x &&& y)) := by
  unfold sx_Qa
  have full : sx_Qok p (sx_zf false) (.int (x &&& y)) := ⟨_, rfl, (sx_i32 _).1, (sx_i32 _).2⟩
  cases h : sx_bd E b with
  | none => exact full
  | some j =>
    have hj := sx_bd_ok hE h
    rw [← hy] at hj
    show sx_Qok p (if 0 ≤ j.1 then sx_z false 0 j.2 else sx_zf false) _
    split
    · have h2 := @sx_and32 x y (by omega)
      exact ⟨_, rfl, h2.1, by omega⟩
    · exact full
theorem sx_Qa_l {p : Nat → Int} {E : sx_E} (hE : sx_Sat p E) {b : sx_F} {x y : Int64} (hy : y.toInt = sx_ev p b) : sx_Qok p (sx_Qa true E b) (.long (x &&& y)) := by
  unfold sx_Qa
  have full : sx_Qok p (sx_zf true) (.long (x &&& y)) := ⟨_, rfl, (sx_i64 _).1, (sx_i64 _).2⟩
  cases h : sx_bd E b with
  | none => exact full
  | some j =>
    have hj := sx_bd_ok hE h
    rw [← hy] at hj
    show sx_Qok p (if 0 ≤ j.1 then sx_z true 0 j.2 else sx_zf true) _
    split
    · have h2 := @sx_and64 x y (by omega)
      exact ⟨_, rfl, h2.1, by omega⟩
    · exact full
/-- is a form 0 -/
noncomputable def sx_ieq0 (e : sx_F) : Bool := match sx_c? e with
  | some k => decide (k = 0)
  | none => false
theorem sx_ieq0_ok {p : Nat → Int} {e : sx_F} (h : sx_ieq0 e = true) : sx_ev p e = 0 := by
  unfold sx_ieq0 at h
  cases h1 : sx_c? e with
  | none => rw [h1] at h; cases h
  | some k =>
    rw [h1] at h
    rw [sx_c?_ok h1]
    exact of_decide_eq_true h
theorem sx_shr0 (x : Int32) : x >>> ((0 : Int32) &&& 31) = x := by
  rw [show ((0 : Int32) &&& 31) = 0 from by decide]
  exact Int32.shiftRight_zero
noncomputable def sx_bin (E : sx_E) (C : List sx_F) (i : Instr) (a b : sx_V) : Option sx_Q := match a, b with
  | .inl (.inl x), .inl (.inl y) => match i with
    | .iadd => some (sx_Qi E C (sx_add x y))
    | .isub => some (sx_Qi E C (sx_sub x y))
    | .imul => some (sx_Qm false E C x y)
    | .idiv => sx_Qd false false E x y
    | .irem => sx_Qd false true E x y
    | .iand => some (sx_Qa false E y)
    | .ior | .ixor => some (sx_zf false)
    | .ishr => some (bif sx_ieq0 y then .inl (.inl (.inl x)) else sx_zf false)
    | _ => none
  | .inl (.inr x), .inl (.inr y) => match i with
    | .ladd => some (sx_Ql E C (sx_add x y))
    | .lsub => some (sx_Ql E C (sx_sub x y))
    | .lmul => some (sx_Qm true E C x y)
    | .ldiv => sx_Qd true false E x y
    | .lrem => sx_Qd true true E x y
    | .land => some (sx_Qa true E y)
    | .lor => some (sx_zf true)
    | .lcmp => some (.inl (.inr (.inl (sx_sub x y))))
    | _ => none
  | .inl (.inr _), .inl (.inl _) => match i with
    | .lshl | .lshr | .lushr => some (sx_zf true)
    | _ => none
  | _, _ => none
theorem sx_full32 (p : Nat → Int) (x : Int32) : sx_Qok p (sx_zf false) (.int x) := ⟨_, rfl, (sx_i32 _).1, (sx_i32 _).2⟩
theorem sx_full64 (p : Nat → Int) (x : Int64) : sx_Qok p (sx_zf true) (.long x) := ⟨_, rfl, (sx_i64 _).1, (sx_i64 _).2⟩
theorem sx_bin_lt {n : Nat} {E : sx_E} {C : List sx_F} {i : Instr} {a b : sx_V} {q : sx_Q} (ha : sx_vlt n a) (hb : sx_vlt n b) (h : sx_bin E C i a b = some q) : sx_Qlt n q := by
  unfold sx_bin at h
  split at h
  · split at h <;> first | (cases h; first | exact sx_Qi_lt (sx_add_lt ha hb) | exact sx_Qi_lt (sx_sub_lt ha hb) | exact sx_Qm_lt ha hb | exact sx_Qa_lt | (rename_i x y ii; cases sx_ieq0 y <;> first | exact ha | trivial) | trivial) | exact sx_Qd_lt h | cases h
  · split at h <;> first | (cases h; first | exact sx_Ql_lt (sx_add_lt ha hb) | exact sx_Ql_lt (sx_sub_lt ha hb) | exact sx_Qm_lt ha hb | exact sx_Qa_lt | exact sx_sub_lt ha hb | trivial) | exact sx_Qd_lt h | cases h
  · split at h <;> first | (cases h; trivial) | cases h
  · cases h
theorem sx_lgc (x y : Int64) : (lg_cmp x y).toInt = sx_sg (x.toInt - y.toInt) := by
  unfold lg_cmp sx_sg
  simp only [gt_iff_lt, Int64.lt_iff_toInt_lt, ← Int64.toInt_inj]
  repeat' split
  all_goals first | rfl | omega
theorem sx_bin_ok {p : Nat → Int} {E : sx_E} {C : List sx_F} (hE : sx_Sat p E) (hC : sx_Fok p C) {i : Instr} {a b : sx_V} {q : sx_Q} {x y : Value} (ha : sx_d p a x) (hb : sx_d p b y) (h : sx_bin E C i a b = some q) : ∃ z, pq_bin i x y = some z ∧ sx_Qok p q z := by
  unfold sx_bin at h
  split at h
  · rename_i e f
    cases x <;> first | exact ha.elim | skip
    cases y <;> first | exact hb.elim | skip
    rename_i x y
    have ha : x.toInt = sx_ev p e := ha
    have hb : y.toInt = sx_ev p f := hb
    split at h
    · cases h
      exact ⟨_, rfl, sx_Qi_ok hE hC (by rw [sx_add_ev, Int32.toInt_add, ha, hb])⟩
    · cases h
      exact ⟨_, rfl, sx_Qi_ok hE hC (by rw [sx_sub_ev, Int32.toInt_sub, ha, hb])⟩
    · cases h
      exact ⟨_, rfl, sx_Qm_i hE hC ha hb⟩
    · obtain ⟨h1, h2⟩ := sx_Qd_i hE ha hb h
      exact ⟨_, if_neg h1, h2⟩
    · obtain ⟨h1, h2⟩ := sx_Qd_i hE ha hb h
      exact ⟨_, if_neg h1, h2⟩
    · cases h
      exact ⟨_, rfl, sx_Qa_i hE hb⟩
    · cases h
      exact ⟨_, rfl, sx_full32 p _⟩
    · cases h
      exact ⟨_, rfl, sx_full32 p _⟩
    · cases h
      refine ⟨_, rfl, ?_⟩
      cases hz : sx_ieq0 f with
      | false => exact sx_full32 p _
      | true =>
        have e0 := sx_ieq0_ok (p := p) hz
        rw [← hb] at e0
        have ey : y = 0 := Int32.toInt_inj.mp (by rw [e0]; rfl)
        show (x >>> (y &&& 31)).toInt = sx_ev p e
        rw [ey, sx_shr0, ha]
    · cases h
  · rename_i e f
    cases x <;> first | exact ha.elim | skip
    cases y <;> first | exact hb.elim | skip
    rename_i x y
    have ha : x.toInt = sx_ev p e := ha
    have hb : y.toInt = sx_ev p f := hb
    split at h
    · cases h
      exact ⟨_, rfl, sx_Ql_ok hE hC (by rw [sx_add_ev, Int64.toInt_add, ha, hb])⟩
    · cases h
      exact ⟨_, rfl, sx_Ql_ok hE hC (by rw [sx_sub_ev, Int64.toInt_sub, ha, hb])⟩
    · cases h
      exact ⟨_, rfl, sx_Qm_l hE hC ha hb⟩
    · obtain ⟨h1, h2⟩ := sx_Qd_l hE ha hb h
      exact ⟨_, if_neg h1, h2⟩
    · obtain ⟨h1, h2⟩ := sx_Qd_l hE ha hb h
      exact ⟨_, if_neg h1, h2⟩
    · cases h
      exact ⟨_, rfl, sx_Qa_l hE hb⟩
    · cases h
      exact ⟨_, rfl, sx_full64 p _⟩
    · cases h
      refine ⟨_, rfl, ?_⟩
      show (lg_cmp x y).toInt = sx_sg (sx_ev p (sx_sub e f))
      rw [sx_lgc, sx_sub_ev, ha, hb]
    · cases h
  · cases x <;> first | exact ha.elim | skip
    cases y <;> first | exact hb.elim | skip
    split at h
    · cases h
      exact ⟨_, rfl, sx_full64 p _⟩
    · cases h
      exact ⟨_, rfl, sx_full64 p _⟩
    · cases h
      exact ⟨_, rfl, sx_full64 p _⟩
    · cases h
  · cases h
/-- the terms that s doesn't divide -/
noncomputable def sx_nd (s : Int) (l : List (Nat × Int)) : List (Nat × Int) := l.filter fun t => !(decide (t.2 % s = 0))
theorem sx_nd_ok (p : Nat → Int) (s : Int) : ∀ l : List (Nat × Int), ∃ M : Int, sx_ts p l = sx_ts p (sx_nd s l) + s * M
  | [] => ⟨0, by show (0 : Int) = 0 + s * 0; rw [Int.mul_zero]; rfl⟩
  | t :: l => by
    obtain ⟨M, h⟩ := sx_nd_ok p s l
    have e : sx_ts p (t :: l) = t.2 * p t.1 + sx_ts p l := rfl
    unfold sx_nd
    cases hb : decide (t.2 % s = 0) with
    | true =>
      have h0 : t.2 % s = 0 := of_decide_eq_true hb
      have h1 : s * (t.2 / s) = t.2 := Int.mul_ediv_cancel_of_emod_eq_zero h0
      rw [List.filter_cons_of_neg (by rw [hb]; decide)]
      refine ⟨t.2 / s * p t.1 + M, ?_⟩
      rw [e, h, Int.mul_add, ← Int.mul_assoc, h1]
      show t.2 * p t.1 + (sx_ts p (sx_nd s l) + s * M) = sx_ts p (sx_nd s l) + (t.2 * p t.1 + s * M)
      omega
    | false =>
      rw [List.filter_cons_of_pos (by rw [hb]; rfl)]
      refine ⟨M, ?_⟩
      rw [e, h]
      show t.2 * p t.1 + (sx_ts p (sx_nd s l) + s * M) = (t.2 * p t.1 + sx_ts p (sx_nd s l)) + s * M
      omega
theorem sx_nd_lt {n : Nat} {s : Int} {c : Int} {l : List (Nat × Int)} (h : sx_lt n (c, l)) : sx_lt n (c, sx_nd s l) := fun q hq => h q (List.mem_filter.mp hq).1
/-- what is left of a form by a number, where that lies between bounds -/
noncomputable def sx_md (E : sx_E) (m : Int) (x : sx_F) (lo hi : Int) : Option sx_F := match sx_tb E (sx_nd m x.2) with
  | some o => bif sx_le lo (x.1 + o.1) && sx_le (x.1 + o.2) hi then some (x.1, sx_nd m x.2) else none
  | none => none
theorem sx_md_ok {p : Nat → Int} {E : sx_E} (hE : sx_Sat p E) {m lo hi : Int} {x y : sx_F} (h : sx_md E m x lo hi = some y) : (lo ≤ sx_ev p y ∧ sx_ev p y ≤ hi) ∧ ∃ M : Int, sx_ev p x = sx_ev p y + m * M := by
  unfold sx_md at h
  split at h
  · rename_i o ho
    cases hb : sx_le lo (x.1 + o.1) && sx_le (x.1 + o.2) hi with
    | true =>
      rw [hb] at h
      cases h
      rw [Bool.and_eq_true] at hb
      have h1 : lo ≤ x.1 + o.1 := sx_leT hb.1
      have h2 : x.1 + o.2 ≤ hi := sx_leT hb.2
      have O := sx_tb_ok hE _ _ ho
      obtain ⟨M, hM⟩ := sx_nd_ok p m x.2
      have e1 : sx_ev p (x.1, sx_nd m x.2) = x.1 + sx_ts p (sx_nd m x.2) := rfl
      have e2 : sx_ev p x = x.1 + sx_ts p x.2 := rfl
      exact ⟨⟨by omega, by omega⟩, M, by omega⟩
    | false =>
      rw [hb] at h
      cases h
  · cases h
theorem sx_md_lt {n : Nat} {E : sx_E} {m lo hi : Int} {x y : sx_F} (hx : sx_lt n x) (h : sx_md E m x lo hi = some y) : sx_lt n y := by
  unfold sx_md at h
  split at h
  · rename_i o ho
    cases hb : sx_le lo (x.1 + o.1) && sx_le (x.1 + o.2) hi with
    | true =>
      rw [hb] at h
      cases h
      exact sx_nd_lt (c := x.1) (l := x.2) hx
    | false =>
      rw [hb] at h
      cases h
  · cases h
noncomputable def sx_cs (E : sx_E) (C : List sx_F) (m : Int) (x : sx_F) (lo hi : Int) : sx_Q := bif sx_in E C x lo hi then .inl (.inl (.inl x)) else match sx_md E m x lo hi with
  | some y => .inl (.inl (.inl y))
  | none => .inr (false, lo, hi)
theorem sx_cs_lt {n : Nat} {E : sx_E} {C : List sx_F} {m lo hi : Int} {x : sx_F} (hx : sx_lt n x) : sx_Qlt n (sx_cs E C m x lo hi) := by
  unfold sx_cs
  cases sx_in E C x lo hi with
  | true => exact hx
  | false =>
    show sx_Qlt n (match sx_md E m x lo hi with
      | some y => .inl (.inl (.inl y))
      | none => .inr (false, lo, hi))
    split
    · rename_i y hy
      exact sx_md_lt hx hy
    · trivial
theorem sx_cs_ok {p : Nat → Int} {E : sx_E} {C : List sx_F} (hE : sx_Sat p E) (hC : sx_Fok p C) {k : Nat} {lo hi : Int} {x : sx_F} {z : Int32} (hk : (2 : Int) * -lo = k ∧ (2 : Int) * (hi + 1) = k) (hz : z.toInt = (sx_ev p x).bmod k) (h1 : lo ≤ z.toInt) (h2 : z.toInt ≤ hi) : sx_Qok p (sx_cs E C k x lo hi) (.int z) := by
  unfold sx_cs
  cases hb : sx_in E C x lo hi with
  | true =>
    obtain ⟨b1, b2⟩ := sx_in_ok hE hC hb
    show z.toInt = _
    rw [hz, Int.bmod_eq_of_le (by omega) (by omega)]
  | false =>
    show sx_Qok p (match sx_md E (k : Int) x lo hi with
      | some y => .inl (.inl (.inl y))
      | none => .inr (false, lo, hi)) (.int z)
    split
    · rename_i y hy
      obtain ⟨⟨b1, b2⟩, M, b3⟩ := sx_md_ok hE hy
      show z.toInt = _
      rw [hz, b3, Int.add_mul_bmod_self_left, Int.bmod_eq_of_le (by omega) (by omega)]
    · exact ⟨_, rfl, h1, h2⟩
noncomputable def sx_un (E : sx_E) (C : List sx_F) (i : Instr) (a : sx_V) : Option sx_Q := match a with
  | .inl (.inl x) => match i with
    | .ineg => some (sx_Qi E C (sx_mul (-1) x))
    | .i2l => some (.inl (.inl (.inr x)))
    | .i2b => some (sx_cs E C 256 x (-128) 127)
    | .i2s => some (sx_cs E C 65536 x (-32768) 32767)
    | _ => none
  | .inl (.inr x) => match i with
    | .l2i => some (sx_Qi E C x)
    | _ => none
  | _ => none
theorem sx_un_lt {n : Nat} {E : sx_E} {C : List sx_F} {i : Instr} {a : sx_V} {q : sx_Q} (ha : sx_vlt n a) (h : sx_un E C i a = some q) : sx_Qlt n q := by
  unfold sx_un at h
  split at h
  · split at h
    · cases h
      exact sx_Qi_lt (sx_mul_lt ha)
    · cases h
      exact ha
    · cases h
      exact sx_cs_lt ha
    · cases h
      exact sx_cs_lt ha
    · cases h
  · split at h
    · cases h
      exact sx_Qi_lt ha
    · cases h
  · cases h
theorem sx_un_ok {p : Nat → Int} {E : sx_E} {C : List sx_F} (hE : sx_Sat p E) (hC : sx_Fok p C) {i : Instr} {a : sx_V} {q : sx_Q} {x : Value} (ha : sx_d p a x) (h : sx_un E C i a = some q) : ∃ z, pq_un i x = some z ∧ sx_Qok p q z := by
  unfold sx_un at h
  split at h
  · rename_i e
    cases x <;> first | exact ha.elim | skip
    rename_i x
    have ha : x.toInt = sx_ev p e := ha
    split at h
    · cases h
      exact ⟨_, rfl, sx_Qi_ok hE hC (by rw [sx_mul_ev, Int32.toInt_neg, ha]; congr 1; omega)⟩
    · cases h
      exact ⟨_, rfl, by show x.toInt64.toInt = _; rw [Int32.toInt_toInt64, ha]⟩
    · cases h
      refine ⟨_, rfl, ?_⟩
      have e1 : x.toInt8.toInt32.toInt = x.toInt.bmod (2 ^ 8) := by rw [Int8.toInt_toInt32, Int32.toInt_toInt8]
      have h1 := Int8.le_toInt x.toInt8
      have h2 := Int8.toInt_lt x.toInt8
      exact sx_cs_ok (k := 256) hE hC (by decide) (by show _ = (sx_ev p e).bmod (2 ^ 8); rw [e1, ha]) (by rw [Int8.toInt_toInt32]; omega) (by rw [Int8.toInt_toInt32]; omega)
    · cases h
      refine ⟨_, rfl, ?_⟩
      have e1 : x.toInt16.toInt32.toInt = x.toInt.bmod (2 ^ 16) := by rw [Int16.toInt_toInt32, Int32.toInt_toInt16]
      have h1 := Int16.le_toInt x.toInt16
      have h2 := Int16.toInt_lt x.toInt16
      exact sx_cs_ok (k := 65536) hE hC (by decide) (by show _ = (sx_ev p e).bmod (2 ^ 16); rw [e1, ha]) (by rw [Int16.toInt_toInt32]; omega) (by rw [Int16.toInt_toInt32]; omega)
    · cases h
  · rename_i e
    cases x <;> first | exact ha.elim | skip
    rename_i x
    have ha : x.toInt = sx_ev p e := ha
    split at h
    · cases h
      exact ⟨_, rfl, sx_Qi_ok hE hC (by rw [Int64.toInt_toInt32, ha])⟩
    · cases h
  · cases h
