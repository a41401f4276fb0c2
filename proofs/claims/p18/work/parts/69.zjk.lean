/-! slots: what is known of more of them, in any order, serves as well -/
noncomputable def sl_nd : List Nat → Bool
  | [] => true
  | i :: r => !(r.elem i) && sl_nd r
noncomputable def sl_ok : pq_L → pq_L → Prop
  | [], _ => True
  | q :: r, l => pq_lk l q.1 = some q.2 ∧ sl_ok r l
noncomputable def sl_R (l l' : pq_L) : Prop := (l.map (fun q => q.1)).Nodup ∧ (l'.map (fun q => q.1)).Nodup ∧ ∀ q, q ∈ l → q ∈ l'
theorem sl_ndp : ∀ {l : List Nat}, sl_nd l = true → l.Nodup
  | [], _ => List.nodup_nil
  | i :: r, h => by
    have h : (!(r.elem i) && sl_nd r) = true := h
    rw [Bool.and_eq_true] at h
    refine List.nodup_cons.mpr ⟨fun m => ?_, sl_ndp h.2⟩
    rw [List.elem_eq_true_of_mem m] at h
    exact absurd h.1 (by decide)
theorem sl_in : ∀ {l l' : pq_L}, sl_ok l l' → ∀ q, q ∈ l → q ∈ l'
  | [], _, _, q, h => by cases h
  | a :: r, l', h, q, hq => by
    rcases List.mem_cons.mp hq with e | hq
    · subst e
      exact pq_lk_mem _ _ _ h.1
    · exact sl_in h.2 q hq
theorem sl_lkm : ∀ {l : pq_L} {i : Nat} {v : Value}, (l.map (fun q => q.1)).Nodup → (i, v) ∈ l → pq_lk l i = some v
  | [], _, _, _, h => by cases h
  | a :: r, i, v, hn, h => by
    have hn : (a.1 :: r.map (fun q => q.1)).Nodup := hn
    rw [List.nodup_cons] at hn
    show (bif Nat.beq a.1 i then some a.2 else pq_lk r i) = some v
    rcases List.mem_cons.mp h with e | h
    · subst e
      rw [Nat.beq_refl]
      rfl
    · have ne : Nat.beq a.1 i = false := by
        cases e : Nat.beq a.1 i with
        | false => rfl
        | true =>
          have e : a.1 = i := Nat.eq_of_beq_eq_true e
          exact absurd (List.mem_map.mpr ⟨(i, v), h, e.symm⟩) hn.1
      rw [ne]
      exact sl_lkm hn.2 h
theorem sl_lk {l l' : pq_L} {i : Nat} {v : Value} (h : sl_R l l') (e : pq_lk l i = some v) : pq_lk l' i = some v := sl_lkm h.2.1 (h.2.2 _ (pq_lk_mem _ _ _ e))
theorem sl_ndf {p : Nat × Value → Bool} : ∀ {l : pq_L}, (l.map (fun q => q.1)).Nodup → ((l.filter p).map (fun q => q.1)).Nodup
  | [], h => h
  | a :: r, h => by
    have h : (a.1 :: r.map (fun q => q.1)).Nodup := h
    rw [List.nodup_cons] at h
    rw [List.filter_cons]
    split
    · show (a.1 :: (r.filter p).map (fun q => q.1)).Nodup
      refine List.nodup_cons.mpr ⟨fun m => h.1 ?_, sl_ndf h.2⟩
      obtain ⟨q, hq, e⟩ := List.mem_map.mp m
      exact List.mem_map.mpr ⟨q, (List.mem_filter.mp hq).1, e⟩
    · exact sl_ndf h.2
theorem sl_put {p : Nat × Value → Bool} {l l' : pq_L} {i : Nat} {v : Value} (hp : ∀ x, p (i, x) = false) (h : sl_R l l') : sl_R ((i, v) :: l.filter p) ((i, v) :: l'.filter p) := by
  have hno : ∀ m : pq_L, i ∉ (m.filter p).map (fun q => q.1) := fun m hm => by
    obtain ⟨q, hq, e⟩ := List.mem_map.mp hm
    have := (List.mem_filter.mp hq).2
    rw [show q = (i, q.2) from Prod.ext e rfl, hp] at this
    cases this
  refine ⟨List.nodup_cons.mpr ⟨hno l, sl_ndf h.1⟩, List.nodup_cons.mpr ⟨hno l', sl_ndf h.2.1⟩, fun q hq => ?_⟩
  rcases List.mem_cons.mp hq with e | hq
  · exact List.mem_cons.mpr (Or.inl e)
  · have := List.mem_filter.mp hq
    exact List.mem_cons.mpr (Or.inr (List.mem_filter.mpr ⟨h.2.2 q this.1, this.2⟩))
theorem sl_st1 {l l' : pq_L} {i : Nat} {v : Value} (h : sl_R l l') : sl_R (pq_st1 l i v) (pq_st1 l' i v) := sl_put (fun x => by show (!(i == i) && _) = false; rw [beq_self_eq_true]; rfl) h
theorem sl_st2 {l l' : pq_L} {i : Nat} {v : Value} (h : sl_R l l') : sl_R (pq_st2 l i v) (pq_st2 l' i v) := sl_put (fun x => by show (!(i == i) && _) = false; rw [beq_self_eq_true]; rfl) h
theorem sl_if {b : Bool} {x y : Option pq_R} {r : pq_R} (h : (bif b then x else none) = some r) (g : x = some r → y = some r) : (bif b then y else none) = some r := by
  cases b
  · cases h
  · exact g h
theorem sl_no {res : pq_R} {P : Prop} (h : (none : Option pq_R) = some res) : P := by
  cases h
set_option maxHeartbeats 4000000 in
theorem sl_do {call : Nat → List Value → pq_W → Option pq_R} {lim : Nat → Nat × Nat} {own : Nat × Nat} {ret : Option FieldType} {k : Nat → pq_L → List Value → pq_W → Nat → Nat → Option pq_R} (hk : ∀ pc l l' st w cs ss res, sl_R l l' → k pc l st w cs ss = some res → k pc l' st w cs ss = some res) (q : pq_N) (ls ls' : pq_L) (hR : sl_R ls ls') (st : List Value) (w : pq_W) (cs ss : Nat) (res : pq_R) (h : pq_do call lim own ret k q ls st w cs ss = some res) : pq_do call lim own ret k q ls' st w cs ss = some res := by
  obtain ⟨p0, cat, nx, i, a, v, t⟩ := q
  have hR1 : ∀ (i : Nat) (v : Value), sl_R (pq_st1 ls i v) (pq_st1 ls' i v) := fun _ _ => sl_st1 hR
  have hR2 : ∀ (i : Nat) (v : Value), sl_R (pq_st2 ls i v) (pq_st2 ls' i v) := fun _ _ => sl_st2 hR
  match cat, h with
  | 0, h =>
    exact hk _ _ _ _ _ _ _ _ hR h
  | 1, h =>
    simp only [pq_do] at h ⊢
    cases e : pq_lk ls (a.headD 0) with
    | none =>
      rw [e] at h
      exact sl_no h
    | some z =>
      rw [e] at h
      rw [sl_lk hR e]
      cases z <;> first | (exact sl_no h) | (exact hk _ _ _ _ _ _ _ _ hR h)
  | 2, h =>
    simp only [pq_do] at h ⊢
    cases e : pq_lk ls (a.headD 0) with
    | none =>
      rw [e] at h
      exact sl_no h
    | some z =>
      rw [e] at h
      rw [sl_lk hR e]
      cases z <;> first | (exact sl_no h) | (exact hk _ _ _ _ _ _ _ _ hR h)
  | 3, h =>
    simp only [pq_do] at h ⊢
    cases e : pq_lk ls (a.headD 0) with
    | none =>
      rw [e] at h
      exact sl_no h
    | some z =>
      rw [e] at h
      rw [sl_lk hR e]
      cases z <;> first | (exact sl_no h) | (exact hk _ _ _ _ _ _ _ _ hR h)
  | 4, h =>
    cases st with
    | nil => exact sl_no h
    | cons x st => cases x <;> first | (exact sl_no h) | (exact hk _ _ _ _ _ _ _ _ (hR1 _ _) h)
  | 5, h =>
    cases st with
    | nil => exact sl_no h
    | cons x st => cases x <;> first | (exact sl_no h) | (exact hk _ _ _ _ _ _ _ _ (hR2 _ _) h)
  | 6, h =>
    cases st with
    | nil => exact sl_no h
    | cons x st => cases x <;> first | (exact sl_no h) | (exact hk _ _ _ _ _ _ _ _ (hR1 _ _) h)
  | 7, h =>
    simp only [pq_do] at h ⊢
    cases e : pq_lk ls (a.headD 0) with
    | none =>
      rw [e] at h
      exact sl_no h
    | some z =>
      rw [e] at h
      rw [sl_lk hR e]
      cases z <;> cases v <;> first | (exact sl_no h) | (exact hk _ _ _ _ _ _ _ _ (hR1 _ _) h)
  | 8, h =>
    revert h
    simp only [pq_do]
    repeat' split
    all_goals intro h
    all_goals first | (exact sl_no h) | (exact hk _ _ _ _ _ _ _ _ hR h) | (exact sl_if h (fun h => hk _ _ _ _ _ _ _ _ hR h)) | (exact h)
  | 9, h =>
    revert h
    simp only [pq_do]
    repeat' split
    all_goals intro h
    all_goals first | (exact sl_no h) | (exact hk _ _ _ _ _ _ _ _ hR h) | (exact sl_if h (fun h => hk _ _ _ _ _ _ _ _ hR h)) | (exact h)
  | 10, h =>
    revert h
    simp only [pq_do]
    repeat' split
    all_goals intro h
    all_goals first | (exact sl_no h) | (exact hk _ _ _ _ _ _ _ _ hR h) | (exact sl_if h (fun h => hk _ _ _ _ _ _ _ _ hR h)) | (exact h)
  | 11, h =>
    revert h
    simp only [pq_do]
    repeat' split
    all_goals intro h
    all_goals first | (exact sl_no h) | (exact hk _ _ _ _ _ _ _ _ hR h) | (exact sl_if h (fun h => hk _ _ _ _ _ _ _ _ hR h)) | (exact h)
  | 12, h =>
    revert h
    simp only [pq_do]
    split
    · intro h
      rename_i x y z u v
      cases hb : pq_br _ _ _ with
      | true =>
        rw [hb] at h
        exact hk _ _ _ _ _ _ _ _ hR h
      | false =>
        rw [hb] at h
        exact hk _ _ _ _ _ _ _ _ hR h
    · intro h
      exact sl_no h
  | 13, h =>
    revert h
    simp only [pq_do]
    split
    · intro h
      rename_i x y z u v
      cases hb : pq_br _ _ _ with
      | true =>
        rw [hb] at h
        exact hk _ _ _ _ _ _ _ _ hR h
      | false =>
        rw [hb] at h
        exact hk _ _ _ _ _ _ _ _ hR h
    · intro h
      exact sl_no h
  | 14, h =>
    exact hk _ _ _ _ _ _ _ _ hR h
  | 15, h =>
    revert h
    simp only [pq_do]
    repeat' split
    all_goals intro h
    all_goals first | (exact sl_no h) | (exact hk _ _ _ _ _ _ _ _ hR h) | (exact sl_if h (fun h => hk _ _ _ _ _ _ _ _ hR h)) | (exact h)
  | 16, h =>
    exact h
  | 17, h =>
    exact h
  | 18, h =>
    exact h
  | 19, h =>
    revert h
    simp only [pq_do]
    repeat' split
    all_goals intro h
    all_goals first | (exact sl_no h) | (exact hk _ _ _ _ _ _ _ _ hR h) | (exact sl_if h (fun h => hk _ _ _ _ _ _ _ _ hR h)) | (exact h)
  | 20, h =>
    revert h
    simp only [pq_do]
    repeat' split
    all_goals intro h
    all_goals first | (exact sl_no h) | (exact hk _ _ _ _ _ _ _ _ hR h) | (exact sl_if h (fun h => hk _ _ _ _ _ _ _ _ hR h)) | (exact h)
  | 21, h =>
    revert h
    simp only [pq_do]
    repeat' split
    all_goals intro h
    all_goals first | (exact sl_no h) | (exact hk _ _ _ _ _ _ _ _ hR h) | (exact sl_if h (fun h => hk _ _ _ _ _ _ _ _ hR h)) | (exact h)
  | 22, h =>
    revert h
    simp only [pq_do]
    repeat' split
    all_goals intro h
    all_goals first | (exact sl_no h) | (exact hk _ _ _ _ _ _ _ _ hR h) | (exact sl_if h (fun h => hk _ _ _ _ _ _ _ _ hR h)) | (exact h)
  | 23, h =>
    revert h
    simp only [pq_do]
    repeat' split
    all_goals intro h
    all_goals first | (exact sl_no h) | (exact hk _ _ _ _ _ _ _ _ hR h) | (exact sl_if h (fun h => hk _ _ _ _ _ _ _ _ hR h)) | (exact h)
  | 24, h =>
    revert h
    simp only [pq_do]
    repeat' split
    all_goals intro h
    all_goals first | (exact sl_no h) | (exact hk _ _ _ _ _ _ _ _ hR h) | (exact sl_if h (fun h => hk _ _ _ _ _ _ _ _ hR h)) | (exact h)
  | 25, h =>
    revert h
    simp only [pq_do]
    repeat' split
    all_goals intro h
    all_goals first | (exact sl_no h) | (exact hk _ _ _ _ _ _ _ _ hR h) | (exact sl_if h (fun h => hk _ _ _ _ _ _ _ _ hR h)) | (exact h)
  | 26, h =>
    revert h
    simp only [pq_do]
    repeat' split
    all_goals intro h
    all_goals first | (exact sl_no h) | (exact hk _ _ _ _ _ _ _ _ hR h) | (exact sl_if h (fun h => hk _ _ _ _ _ _ _ _ hR h)) | (exact h)
  | 27, h =>
    revert h
    simp only [pq_do]
    repeat' split
    all_goals intro h
    all_goals first | (exact sl_no h) | (exact hk _ _ _ _ _ _ _ _ hR h) | (exact sl_if h (fun h => hk _ _ _ _ _ _ _ _ hR h)) | (exact h)
  | 28, h =>
    revert h
    show (bif _ then _ else none) = some res → (bif _ then _ else none) = some res
    intro h
    refine sl_if h (fun h => ?_)
    revert h
    split
    · intro h
      exact hk _ _ _ _ _ _ _ _ hR h
    · intro h
      exact sl_no h
  | 29, h =>
    revert h
    simp only [pq_do]
    repeat' split
    all_goals intro h
    all_goals first | (exact sl_no h) | (exact hk _ _ _ _ _ _ _ _ hR h) | (exact sl_if h (fun h => hk _ _ _ _ _ _ _ _ hR h)) | (exact h)
  | 30, h =>
    exact hk _ _ _ _ _ _ _ _ hR h
  | 31, h =>
    revert h
    simp only [pq_do]
    repeat' split
    all_goals intro h
    all_goals first | (exact sl_no h) | (exact hk _ _ _ _ _ _ _ _ hR h) | (exact sl_if h (fun h => hk _ _ _ _ _ _ _ _ hR h)) | (exact h)
  | 32, h =>
    revert h
    simp only [pq_do]
    repeat' split
    all_goals intro h
    all_goals first | (exact sl_no h) | (exact hk _ _ _ _ _ _ _ _ hR h) | (exact sl_if h (fun h => hk _ _ _ _ _ _ _ _ hR h)) | (exact h)
  | _ + 33, h => exact sl_no h
theorem sl_ex {call : Nat → List Value → pq_W → Option pq_R} {lim : Nat → Nat × Nat} {own : Nat × Nat} {ret : Option FieldType} {L : pq_B} : ∀ (f pc : Nat) (l l' : pq_L) (st : List Value) (w : pq_W) (cs ss : Nat) (res : pq_R), sl_R l l' → pq_exec call lim own ret L f pc l st w cs ss = some res → pq_exec call lim own ret L f pc l' st w cs ss = some res
  | 0, _, _, _, _, _, _, _, _, _, h => by cases h
  | f + 1, pc, l, l', st, w, cs, ss, res, hR, h => by
    rw [pq_exec_s] at h ⊢
    cases e : pq_look L pc with
    | none =>
      rw [e] at h
      cases h
    | some q =>
      rw [e] at h
      exact sl_do (fun pc l l' st w cs ss res hR h => sl_ex f pc l l' st w cs ss res hR h) q l l' hR st w cs ss res h
theorem xs_wk {k : Nat} {M : pq_M} {pc cs ss : Nat} {ls ls' : pq_L} {st : List Value} {w : pq_W} {Q : pq_R → Prop} (h : sl_ok ls ls') (h1 : sl_nd (ls.map (fun q => q.1)) = true) (h2 : sl_nd (ls'.map (fun q => q.1)) = true) (g : ∃ res, pq_Go k M pc ls st w cs ss res ∧ Q res) : ∃ res, pq_Go k M pc ls' st w cs ss res ∧ Q res := by
  obtain ⟨res, ⟨N, g⟩, q⟩ := g
  exact ⟨res, ⟨N, fun d F f a b c => sl_ex f pc ls ls' st w cs ss res ⟨sl_ndp h1, sl_ndp h2, sl_in h⟩ (g d F f a b c)⟩, q⟩
