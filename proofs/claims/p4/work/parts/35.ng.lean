/-! stretches told in numbers: slots, places and bounds as they stand, no symbols in what is handed on -/
noncomputable def ng_i (ls : pq_L) (i : Nat) (v : Int) : Prop := ∃ x : Int32, pq_lk ls i = some (.int x) ∧ x.toInt = v
noncomputable def ng_b (ls : pq_L) (i : Nat) (lo hi : Int) : Prop := ∃ x : Int32, pq_lk ls i = some (.int x) ∧ lo ≤ x.toInt ∧ x.toInt ≤ hi
noncomputable def ng_d (p : Nat → Int) (ls : pq_L) (i : Nat) : sx_V → Prop
  | .inl (.inl e) => ng_i ls i (sx_ev p e)
  | .inl (.inr e) => ∃ x : Int64, pq_lk ls i = some (.long x) ∧ x.toInt = sx_ev p e
  | .inr (.inl e) => ng_i ls i (sx_sg (sx_ev p e))
  | .inr (.inr r) => pq_lk ls i = some (.ref r)
theorem ng_d_of {p : Nat → Int} {ls : pq_L} {i : Nat} {v : sx_V} (h : ∃ x, pq_lk ls i = some x ∧ sx_d p v x) : ng_d p ls i v := by
  obtain ⟨x, h1, h2⟩ := h
  rcases v with (e | e) | (e | k) <;> cases x <;> first | exact h2.elim | skip
  · exact ⟨_, h1, h2⟩
  · exact ⟨_, h1, h2⟩
  · exact ⟨_, h1, h2⟩
  · have h2 : _ = k := h2
    subst h2
    exact h1
theorem ng_d_to {p : Nat → Int} {ls : pq_L} {i : Nat} {v : sx_V} (h : ng_d p ls i v) : ∃ x, pq_lk ls i = some x ∧ sx_d p v x := by
  rcases v with (e | e) | (e | k)
  · obtain ⟨x, h1, h2⟩ := h
    exact ⟨_, h1, h2⟩
  · obtain ⟨x, h1, h2⟩ := h
    exact ⟨_, h1, h2⟩
  · obtain ⟨x, h1, h2⟩ := h
    exact ⟨_, h1, h2⟩
  · exact ⟨_, h, rfl⟩
abbrev ng_Sl : Type := List (Nat × (sx_V ⊕ (Int × Int)))
noncomputable def ng_sl (p : Nat → Int) (ls : pq_L) : ng_Sl → Prop
  | [] => True
  | (i, .inl v) :: r => ng_d p ls i v ∧ ng_sl p ls r
  | (i, .inr b) :: r => ng_b ls i b.1 b.2 ∧ ng_sl p ls r
noncomputable def ng_sl0 (p : Nat → Int) (ls : pq_L) : List (Nat × sx_V) → Prop
  | [] => True
  | (i, v) :: r => ng_d p ls i v ∧ ng_sl0 p ls r
theorem ng_sl0_ok {p : Nat → Int} {ls : pq_L} : ∀ {l : List (Nat × sx_V)}, ng_sl0 p ls l → sx_lm p l ls
  | [], _ => sy_lm0
  | (i, v) :: r, h => sy_lm1 (ng_d_to h.1) (ng_sl0_ok h.2)
/-- numbers at places -/
noncomputable def ng_eqs (p : Nat → Int) (w : pq_W) : sx_O → Prop
  | [] => True
  | (r, e, .inl (.inl v)) :: O => sy_r w r (sx_ev p e).toNat = sx_ev p v ∧ ng_eqs p w O
  | (_, _, _) :: _ => False
noncomputable def ng_gs (p : Nat → Int) (w : pq_W) : sx_Gh → Prop
  | [] => True
  | (r, e, _, lo, hi) :: g => (lo ≤ sy_r w r (sx_ev p e).toNat ∧ sy_r w r (sx_ev p e).toNat ≤ hi) ∧ ng_gs p w g
noncomputable def ng_fs (p : Nat → Int) : List sx_F → Prop
  | [] => True
  | f :: r => sx_ev p f ≤ 0 ∧ ng_fs p r
theorem ng_fs_to {p : Nat → Int} : ∀ {l : List sx_F}, ng_fs p l → sx_Fok p l
  | [], _ => sy_F0
  | f :: r, h => fun q hq => by
    cases List.mem_cons.mp hq with
    | inl e => rw [e]; exact h.1
    | inr e => exact ng_fs_to h.2 q e
theorem ng_fs_of {p : Nat → Int} : ∀ {l : List sx_F}, (∀ f ∈ l, sx_ev p f ≤ 0) → ng_fs p l
  | [], _ => trivial
  | f :: r, h => ⟨h f List.mem_cons_self, ng_fs_of (fun q hq => h q (List.mem_cons_of_mem _ hq))⟩
/-- is a place there, and does it hold an int -/
noncomputable def ng_pb (E : sx_E) (C : List sx_F) (r : Nat) (e : sx_F) : Bool := match sx_T0[r]? with
  | some (.inr (.inl (_, n, _))) => sx_in E C e 0 ((n : Int) - 1)
  | some (.inl (_, fs)) => match sx_c? e with
    | some c => sx_le 0 c && (match fs[c.toNat]? with
      | some (.inl _) => true
      | _ => false)
    | none => false
  | _ => false
theorem ng_pb_ok {p : Nat → Int} {w : pq_W} {E : sx_E} {C : List sx_F} (hE : sx_Sat p E) (hC : sx_Fok p C) (ht : sx_Ty sx_T0 w) {r : Nat} {e : sx_F} (h : ng_pb E C r e = true) : ∃ i : Nat, (i : Int) = sx_ev p e ∧ ∃ x : Int32, sx_wg w r i = some (.int x) ∧ x.toInt = sy_r w r i := by
  unfold ng_pb at h
  split at h
  · rename_i ty n gs hT
    obtain ⟨h1, h2⟩ := sx_in_ok hE hC h
    refine ⟨(sx_ev p e).toNat, by omega, ?_⟩
    exact sy_at ht hT (by omega)
  · rename_i ci fs hT
    split at h
    · rename_i c hc
      rw [Bool.and_eq_true] at h
      obtain ⟨h1, h2⟩ := h
      have h1 : 0 ≤ c := sx_leT h1
      split at h2
      · rename_i b hb
        have ec : sx_ev p e = c := sx_c?_ok hc
        refine ⟨c.toNat, by omega, ?_⟩
        obtain ⟨x, x1, x2, _⟩ := sq_fat (i := c.toNat) (lo := b.1) (hi := b.2) ht hT hb
        exact ⟨x, x1, x2⟩
      · cases h2
    · cases h
  · cases h
noncomputable def ng_ob (E : sx_E) (C : List sx_F) (O : sx_O) : Bool := O.all fun q => match q.2.2 with
  | .inl (.inl _) => ng_pb E C q.1 q.2.1
  | _ => false
theorem ng_ob_ok {p : Nat → Int} {w : pq_W} {E : sx_E} {C : List sx_F} (hE : sx_Sat p E) (hC : sx_Fok p C) (ht : sx_Ty sx_T0 w) : ∀ {O : sx_O}, ng_ob E C O = true → ng_eqs p w O → sx_Ook p w O
  | [], _, _ => sy_O0
  | (r, e, v) :: O, hb, h => by
    unfold ng_ob at hb
    rw [List.all_cons, Bool.and_eq_true] at hb
    obtain ⟨h1, h2⟩ := hb
    match v, h1, h with
    | .inl (.inl v), h1, h =>
      refine sy_O1 ?_ (ng_ob_ok hE hC ht h2 h.2)
      obtain ⟨i, i1, x, x1, x2⟩ := ng_pb_ok hE hC ht h1
      refine ⟨i, i1, _, x1, ?_⟩
      show x.toInt = sx_ev p v
      have h3 := h.1
      rw [← i1, Int.toNat_natCast] at h3
      rw [x2, h3]
theorem ng_eqs_of {p : Nat → Int} {w : pq_W} : ∀ {O : sx_O}, (O.all fun q => match q.2.2 with
    | .inl (.inl _) => true
    | _ => false) = true → sx_Ook p w O → ng_eqs p w O
  | [], _, _ => trivial
  | (r, e, v) :: O, hb, h => by
    rw [List.all_cons, Bool.and_eq_true] at hb
    obtain ⟨h1, h2⟩ := hb
    match v, h1, h with
    | .inl (.inl v), h1, h =>
      obtain ⟨i, i1, x, i2, i3⟩ := h _ List.mem_cons_self
      refine ⟨?_, ng_eqs_of h2 (fun q hq => h q (List.mem_cons_of_mem _ hq))⟩
      match x, i2, i3 with
      | .int x, i2, i3 =>
        have i1 : (i : Int) = sx_ev p e := i1
        rw [← i1, Int.toNat_natCast, sy_r_of i2]
        exact i3
theorem ng_gs_of {p : Nat → Int} {w : pq_W} : ∀ {g : sx_Gh}, (g.all fun q => !q.2.2.1) = true → sx_Gok p w g → ng_gs p w g
  | [], _, _ => trivial
  | (r, e, b, lo, hi) :: g, hb, h => by
    rw [List.all_cons, Bool.and_eq_true] at hb
    obtain ⟨h1, h2⟩ := hb
    obtain ⟨i, i1, x, i2, i3⟩ := h _ List.mem_cons_self
    refine ⟨?_, ng_gs_of h2 (fun q hq => h q (List.mem_cons_of_mem _ hq))⟩
    match b, h1, x, i2, i3 with
    | false, _, .int x, i2, i3 =>
      have i1 : (i : Int) = sx_ev p e := i1
      rw [← i1, Int.toNat_natCast, sy_r_of i2]
      exact i3
abbrev ng_Al : Type := ng_Sl × List sx_V × sx_O × List sx_F × sx_Gh
noncomputable def ng_s1 (S : sx_S) (q : Nat × (sx_V ⊕ (Int × Int))) : Bool := match sx_sl S.fr.ls q.1, q.2 with
  | some v, .inl u => sx_veq v u
  | some (.inl (.inl e)), .inr i => sx_in S.E S.C e i.1 i.2
  | _, _ => false
theorem ng_s1_ok {p : Nat → Int} {S : sx_S} {ls : pq_L} (hE : sx_Sat p S.E) (hC : sx_Fok p S.C) (hm : sx_lm p S.fr.ls ls) : ∀ {l : ng_Sl}, l.all (ng_s1 S) = true → ng_sl p ls l
  | [], _ => trivial
  | (i, v) :: r, h => by
    rw [List.all_cons, Bool.and_eq_true] at h
    obtain ⟨h1, h2⟩ := h
    have ih := ng_s1_ok hE hC hm h2
    unfold ng_s1 at h1
    split at h1
    · rename_i a u hv e1
      have hv : sx_sl S.fr.ls i = some a := hv
      have e1 : v = .inl u := e1
      subst e1
      have e := sx_veq_ok h1
      subst e
      exact ⟨ng_d_of (hm _ (sx_sl_mem hv)), ih⟩
    · rename_i e b hv e1
      have hv : sx_sl S.fr.ls i = some (.inl (.inl e)) := hv
      have e1 : v = .inr b := e1
      subst e1
      obtain ⟨x, x1, x2⟩ := hm _ (sx_sl_mem hv)
      refine ⟨?_, ih⟩
      match x, x1, x2 with
      | .int x, x1, x2 =>
        have x2 : x.toInt = sx_ev p e := x2
        exact ⟨x, x1, by rw [x2]; exact sx_in_ok hE hC h1⟩
    · cases h1
noncomputable def ng_al1 (S : sx_S) (a : ng_Al) : Bool := a.1.all (ng_s1 S) && sx_steq a.2.1 S.fr.st && sx_alq S.O a.2.2.1 && sx_alf S a.2.2.2.1 && sq_alg S a.2.2.2.2
noncomputable def ng_stop (j k : Nat) (hd : List (Nat × ng_Al)) (S : sx_S) : Bool := Nat.beq S.fr.j j && Nat.beq S.k k && S.K.isEmpty && hd.any fun h => Nat.beq S.fr.pc h.1 && ng_al1 S h.2
noncomputable def ng_al (p : Nat → Int) (ls : pq_L) (st : List Value) (w : pq_W) (a : ng_Al) : Prop := ng_sl p ls a.1 ∧ sx_sm p a.2.1 st ∧ ng_eqs p w a.2.2.1 ∧ ng_fs p a.2.2.2.1 ∧ ng_gs p w a.2.2.2.2
/-- forms of what is handed on hold the first n symbols alone, and numbers -/
noncomputable def ng_lb (n : Nat) (a : ng_Al) : Bool := (a.1.all fun q => match q.2 with
  | .inl v => sx_vltb n v
  | .inr _ => true) && a.2.1.all (sx_vltb n) && sx_oltb n a.2.2.1 && a.2.2.2.1.all (sx_fltb n) && sx_gltb n a.2.2.2.2 && (a.2.2.1.all fun q => match q.2.2 with
    | .inl (.inl _) => true
    | _ => false) && (a.2.2.2.2.all fun q => !q.2.2.1)
theorem ng_d_agree {n : Nat} {p p0 : Nat → Int} {ls : pq_L} {i : Nat} {v : sx_V} (e : ∀ s, s < n → p s = p0 s) (hv : sx_vltb n v = true) (h : ng_d p ls i v) : ng_d p0 ls i v := by
  obtain ⟨x, h1, h2⟩ := ng_d_to h
  exact ng_d_of ⟨x, h1, sx_d_agree (fun s hs => (e s hs).symm) (sx_vltb_ok hv) h2⟩
theorem ng_sl_agree {n : Nat} {p p0 : Nat → Int} {ls : pq_L} (e : ∀ s, s < n → p s = p0 s) : ∀ {l : ng_Sl}, (l.all fun q => match q.2 with
    | .inl v => sx_vltb n v
    | .inr _ => true) = true → ng_sl p ls l → ng_sl p0 ls l
  | [], _, _ => trivial
  | (i, .inl v) :: r, hb, h => by
    rw [List.all_cons, Bool.and_eq_true] at hb
    exact ⟨ng_d_agree e hb.1 h.1, ng_sl_agree e hb.2 h.2⟩
  | (i, .inr v) :: r, hb, h => by
    rw [List.all_cons, Bool.and_eq_true] at hb
    exact ⟨h.1, ng_sl_agree e hb.2 h.2⟩
theorem ng_eqs_agree {n : Nat} {p p0 : Nat → Int} {w : pq_W} (e : ∀ s, s < n → p s = p0 s) : ∀ {O : sx_O}, sx_Olt n O → ng_eqs p w O → ng_eqs p0 w O
  | [], _, _ => trivial
  | (r, a, .inl (.inl v)) :: O, hl, h => by
    have h1 := hl _ List.mem_cons_self
    refine ⟨?_, ng_eqs_agree e (fun q hq => hl q (List.mem_cons_of_mem _ hq)) h.2⟩
    rw [sx_ev_agree (fun s hs => (e s hs).symm) h1.1, sx_ev_agree (fun s hs => (e s hs).symm) (show sx_lt n v from h1.2)]
    exact h.1
  | (r, a, .inl (.inr v)) :: O, hl, h => h.elim
  | (r, a, .inr v) :: O, hl, h => h.elim
theorem ng_gs_agree {n : Nat} {p p0 : Nat → Int} {w : pq_W} (e : ∀ s, s < n → p s = p0 s) : ∀ {g : sx_Gh}, (∀ q ∈ g, sx_lt n q.2.1) → ng_gs p w g → ng_gs p0 w g
  | [], _, _ => trivial
  | (r, a, b, lo, hi) :: g, hl, h => by
    have h1 : sx_lt n a := hl _ List.mem_cons_self
    refine ⟨?_, ng_gs_agree e (fun q hq => hl q (List.mem_cons_of_mem _ hq)) h.2⟩
    rw [sx_ev_agree (fun s hs => (e s hs).symm) h1]
    exact h.1
theorem ng_fs_agree {n : Nat} {p p0 : Nat → Int} (e : ∀ s, s < n → p s = p0 s) : ∀ {l : List sx_F}, l.all (sx_fltb n) = true → ng_fs p l → ng_fs p0 l
  | [], _, _ => trivial
  | f :: r, hb, h => by
    rw [List.all_cons, Bool.and_eq_true] at hb
    refine ⟨?_, ng_fs_agree e hb.2 h.2⟩
    rw [sx_ev_agree (fun s hs => (e s hs).symm) (sx_fltb_ok hb.1)]
    exact h.1
/-- an answer told in numbers -/
abbrev ng_Ae : Type := ((sx_V ⊕ (Int × Int)) ⊕ Unit) × sx_O × List sx_F × sx_Gh
noncomputable def ng_a1 (p : Nat → Int) (r : Option Value) (a : (sx_V ⊕ (Int × Int)) ⊕ Unit) : Prop := match a with
  | .inr () => r = none
  | .inl (.inl (.inl (.inl e))) => ∃ x : Int32, r = some (.int x) ∧ x.toInt = sx_ev p e
  | .inl (.inl (.inl (.inr e))) => ∃ x : Int64, r = some (.long x) ∧ x.toInt = sx_ev p e
  | .inl (.inr i) => ∃ x : Int32, r = some (.int x) ∧ i.1 ≤ x.toInt ∧ x.toInt ≤ i.2
  | _ => False
noncomputable def ng_a1b (n : Nat) (a : (sx_V ⊕ (Int × Int)) ⊕ Unit) : Bool := match a with
  | .inr () => true
  | .inl (.inl (.inl (.inl e))) => sx_fltb n e
  | .inl (.inl (.inl (.inr e))) => sx_fltb n e
  | .inl (.inr _) => true
  | _ => false
theorem ng_a1_of {n : Nat} {p p0 : Nat → Int} {r : Option Value} {a : (sx_V ⊕ (Int × Int)) ⊕ Unit} (e : ∀ s, s < n → p s = p0 s) (hb : ng_a1b n a = true) (h : sx_aeO1 p r a) : ng_a1 p0 r a := by
  match a, hb, r, h with
  | .inr (), _, none, _ => rfl
  | .inl (.inl (.inl (.inl f))), hb, some (.int x), h =>
    have h : x.toInt = sx_ev p f := h
    exact ⟨x, rfl, by rw [h, sx_ev_agree (fun s hs => (e s hs).symm) (sx_fltb_ok hb)]⟩
  | .inl (.inl (.inl (.inr f))), hb, some (.long x), h =>
    have h : x.toInt = sx_ev p f := h
    exact ⟨x, rfl, by rw [h, sx_ev_agree (fun s hs => (e s hs).symm) (sx_fltb_ok hb)]⟩
  | .inl (.inr i), _, some (.int x), h => exact ⟨x, rfl, h⟩
noncomputable def ng_ae (p : Nat → Int) (r : Option Value) (w : pq_W) (a : ng_Ae) : Prop := ng_a1 p r a.1 ∧ ng_eqs p w a.2.1 ∧ ng_fs p a.2.2.1 ∧ ng_gs p w a.2.2.2
noncomputable def ng_rb (n : Nat) (a : ng_Ae) : Bool := ng_a1b n a.1 && sx_oltb n a.2.1 && a.2.2.1.all (sx_fltb n) && sx_gltb n a.2.2.2 && (a.2.1.all fun q => match q.2.2 with
    | .inl (.inl _) => true
    | _ => false) && (a.2.2.2.all fun q => !q.2.2.1)
/-- what is owed at the stops, and at the returns -/
noncomputable def ng_K (Post : pq_R → Prop) (A : sx_A) (w0 : pq_W) (p : Nat → Int) (k : Nat) (M : pq_M) : List (Nat × ng_Al) → Prop
  | [] => True
  | h :: r => (∀ ls st w, sx_Ty sx_T0 w → sx_Fr A w0 w → ng_al p ls st w h.2 → ∃ res, pq_Go k M h.1 ls st w 0 0 res ∧ Post res) ∧ ng_K Post A w0 p k M r
noncomputable def ng_R (Post : pq_R → Prop) (A : sx_A) (w0 : pq_W) (p : Nat → Int) : List ng_Ae → Prop
  | [] => True
  | a :: r => (∀ x w, sx_Ty sx_T0 w → sx_Fr A w0 w → ng_ae p x w a → Post (x, w)) ∧ ng_R Post A w0 p r
theorem ng_K_mem {Post : pq_R → Prop} {A : sx_A} {w0 : pq_W} {p : Nat → Int} {k : Nat} {M : pq_M} : ∀ {hd : List (Nat × ng_Al)}, ng_K Post A w0 p k M hd → ∀ h ∈ hd, ∀ ls st w, sx_Ty sx_T0 w → sx_Fr A w0 w → ng_al p ls st w h.2 → ∃ res, pq_Go k M h.1 ls st w 0 0 res ∧ Post res
  | [], _, h, hh => by cases hh
  | a :: r, hk, h, hh => by
    cases List.mem_cons.mp hh with
    | inl e => rw [e]; exact hk.1
    | inr e => exact ng_K_mem hk.2 h e
theorem ng_R_mem {Post : pq_R → Prop} {A : sx_A} {w0 : pq_W} {p : Nat → Int} : ∀ {re : List ng_Ae}, ng_R Post A w0 p re → ∀ a ∈ re, ∀ x w, sx_Ty sx_T0 w → sx_Fr A w0 w → ng_ae p x w a → Post (x, w)
  | [], _, h, hh => by cases hh
  | a :: r, hk, h, hh => by
    cases List.mem_cons.mp hh with
    | inl e => rw [e]; exact hk.1
    | inr e => exact ng_R_mem hk.2 h e
noncomputable def ng_S (AN : List (Nat × List (Nat × sx_an))) (k j : Nat) (M : pq_M) (pc : Nat) (iv : List (Int × Int)) (C : List sx_F) (sl : List (Nat × sx_V)) (sa : List sx_V) (O : sx_O) : sx_S := sq_s0 k j M pc iv C sl sa O (sx_anf AN j)
noncomputable def ng_side (iv : List (Int × Int)) (C : List sx_F) (sl : List (Nat × sx_V)) (sa : List sx_V) (O : sx_O) (re : List ng_Ae) (hd : List (Nat × ng_Al)) : Bool := sq_s0b iv.length C sl sa O && ng_ob (sx_nvs 0 iv) C O && re.all (ng_rb iv.length) && hd.all fun h => ng_lb iv.length h.2
noncomputable def ng_chk (A : sx_A) (CT : List (Nat × sx_K)) (AN : List (Nat × List (Nat × sx_an))) (k j : Nat) (M : pq_M) (pc : Nat) (iv : List (Int × Int)) (C : List sx_F) (sl : List (Nat × sx_V)) (sa : List sx_V) (O : sx_O) (re : List ng_Ae) (hd : List (Nat × ng_Al)) (f : Nat) : Bool := ng_side iv C sl sa O re hd && sx_go (sx_T0, A, CT, AN) (sq_ret re) (sx_cks (sx_T0, A, CT, AN) (sq_ret re) (ng_stop j k hd) f) [] (ng_S AN k j M pc iv C sl sa O)
theorem ng_go {A : sx_A} {CT : List (Nat × sx_K)} {AN : List (Nat × List (Nat × sx_an))} {J : pq_W → Prop} {Post : pq_R → Prop} {w : pq_W} {ls : pq_L} {st : List Value} {k j : Nat} {M : pq_M} {pc : Nat} {iv : List (Int × Int)} {C : List sx_F} {sl : List (Nat × sx_V)} {sa : List sx_V} {O : sx_O} {re : List ng_Ae} {hd : List (Nat × ng_Al)} {f : Nat} (p : Nat → Int)
    (h : ng_chk A CT AN k j M pc iv C sl sa O re hd f = true) (hM : pq_tab[j]? = some M) (hi : sx_ivs p 0 iv) (hC : ng_fs p C) (hl : ng_sl0 p ls sl) (hs : sx_sm p sa st) (hO : ng_eqs p w O) (ht : sx_Ty sx_T0 w) (hct : ∀ q ∈ CT, sx_Kok sx_T0 J q.1 q.2) (hJ : ∀ w', sx_Ty sx_T0 w' → sx_Fr A w w' → J w')
    (hret : ng_R Post A w p re) (hst : ng_K Post A w p k M hd) : ∃ res, pq_Go k M pc ls st w 0 0 res ∧ Post res := by
  unfold ng_chk at h
  rw [Bool.and_eq_true] at h
  obtain ⟨hside, h⟩ := h
  unfold ng_side at hside
  rw [Bool.and_eq_true, Bool.and_eq_true, Bool.and_eq_true] at hside
  obtain ⟨⟨⟨b1, b2⟩, b3⟩, b4⟩ := hside
  have m : sx_Mt sx_T0 A w p (ng_S AN k j M pc iv C sl sa O) [] ls st w := sq_s0_ok hM hi (ng_fs_to hC) (ng_sl0_ok hl) hs (ng_ob_ok (sy_nvs_ok hi) (ng_fs_to hC) ht b2 hO) ht (sx_Fr_refl _ _) b1
  have hpo : ∀ S' p' ls st w' rv r, sq_ret re S' rv = true → (∀ s, s < iv.length → p' s = p s) → iv.length ≤ S'.n → sx_Mt sx_T0 A w p' S' [] ls st w' → sx_rvm p' rv r → Post (r, w') := by
    intro S' p' ls st w' rv r h1 h2 h3 m2 h4
    unfold sq_ret at h1
    rw [List.any_eq_true] at h1
    obtain ⟨a, ha, h1⟩ := h1
    simp only [Bool.and_eq_true] at h1
    have hb := List.all_eq_true.mp b3 a ha
    unfold ng_rb at hb
    simp only [Bool.and_eq_true] at hb
    obtain ⟨⟨⟨⟨⟨c1, c2⟩, c3⟩, c4⟩, c5⟩, c6⟩ := hb
    refine ng_R_mem hret a ha r w' m2.typ m2.frm ⟨?_, ?_, ?_, ?_⟩
    · exact ng_a1_of h2 c1 (sx_ae1_ok m2.sat m2.fok h4 h1.1.1.1)
    · exact ng_eqs_agree h2 (sx_oltb_ok c2) (ng_eqs_of c5 (sx_alq_ok m2.ook h1.1.1.2))
    · exact ng_fs_agree h2 c3 (ng_fs_of (sx_alf_ok m2.sat m2.fok h1.1.2))
    · exact ng_gs_agree h2 (sx_gltb_ok c4) (ng_gs_of c6 (sq_alg_ok m2.sat m2.fok m2.ook h1.2))
  have hs2 : ∀ S' p' Kc ls st w', ng_stop j k hd S' = true → (∀ s, s < iv.length → p' s = p s) → iv.length ≤ S'.n → sx_Mt sx_T0 A w p' S' Kc ls st w' → sx_Ok Post S'.k Kc S'.fr.M S'.fr.pc ls st w' := by
    intro S' p' Kc ls st w' h1 h2 h3 m2
    unfold ng_stop at h1
    simp only [Bool.and_eq_true] at h1
    obtain ⟨⟨⟨e2, e3⟩, e4⟩, e6⟩ := h1
    have eM : S'.fr.M = M := by
      have k1 := m2.tbm.1
      rw [Nat.eq_of_beq_eq_true e2, hM] at k1
      exact (Option.some.inj k1).symm
    have eK : Kc = [] := by
      have k1 := m2.ksm
      rw [List.isEmpty_iff.mp e4] at k1
      cases Kc with
      | nil => rfl
      | cons c K => exact k1.elim
    subst eK
    rw [List.any_eq_true] at e6
    obtain ⟨hh, hm, e6⟩ := e6
    rw [Bool.and_eq_true] at e6
    obtain ⟨e1, e6⟩ := e6
    unfold ng_al1 at e6
    simp only [Bool.and_eq_true] at e6
    obtain ⟨⟨⟨⟨c1, c2⟩, c3⟩, c4⟩, c5⟩ := e6
    have hb := List.all_eq_true.mp b4 hh hm
    unfold ng_lb at hb
    simp only [Bool.and_eq_true] at hb
    obtain ⟨⟨⟨⟨⟨⟨d1, d2⟩, d3⟩, d4⟩, d5⟩, d6⟩, d7⟩ := hb
    have key := ng_K_mem hst hh hm ls st w' m2.typ m2.frm ⟨ng_sl_agree h2 d1 (ng_s1_ok m2.sat m2.fok m2.lsm c1), sx_sm_agree (fun s hs => (h2 s hs).symm) (fun v hv => sx_vltb_ok (List.all_eq_true.mp d2 v hv)) (by rw [sx_steq_ok c2]; exact m2.stm), ng_eqs_agree h2 (sx_oltb_ok d3) (ng_eqs_of d6 (sx_alq_ok m2.ook c3)), ng_fs_agree h2 d4 (ng_fs_of (sx_alf_ok m2.sat m2.fok c4)), ng_gs_agree h2 (sx_gltb_ok d5) (ng_gs_of d7 (sq_alg_ok m2.sat m2.fok m2.ook c5))⟩
    rw [eM, Nat.eq_of_beq_eq_true e1, Nat.eq_of_beq_eq_true e3]
    exact key
  have hc := fun H S' => sx_cks_ok (P := (sx_T0, A, CT, AN)) (Post := Post) (N0 := iv.length) (p0 := p) hs2 hct hJ hpo f H S'
  exact sx_go_ok (P := (sx_T0, A, CT, AN)) hct hJ hpo hc h p ⟨fun _ _ => rfl, Nat.le_refl _, fun h hh => by cases hh⟩ [] ls st w m
