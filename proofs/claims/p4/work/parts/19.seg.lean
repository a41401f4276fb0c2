/-! stretches of a method: from a place to a place, told by the check; at a place where the walk may stop what is known is handed on -/
noncomputable def sx_cks (P : sx_P) (po : sx_S → Option sx_V → Bool) (stp : sx_S → Bool) (f : Nat) : List sx_H → sx_S → Bool :=
  Nat.rec (motive := fun _ => List sx_H → sx_S → Bool) (fun _ _ => false) (fun _ ih H S => Bool.rec (motive := fun _ => Bool) (Bool.rec (motive := fun _ => Bool) (Option.rec (motive := fun _ => Bool) (sx_go P po ih H S) (fun a => Option.rec (motive := fun _ => Bool) false (fun h => sx_go P po ih (h :: H) (sx_hd S a)) (sx_ent S a)) (sx_ant S.fr.an S.fr.pc)) true (sf_any (fun h => sx_mat h S) H)) true (stp S)) f
theorem sx_cks_s (P : sx_P) (po : sx_S → Option sx_V → Bool) (stp : sx_S → Bool) (f : Nat) (H : List sx_H) (S : sx_S) : sx_cks P po stp (f + 1) H S = bif stp S then true else bif H.any (fun h => sx_mat h S) then true else match sx_ant S.fr.an S.fr.pc with
    | some a => match sx_ent S a with
      | some h => sx_go P po (sx_cks P po stp f) (h :: H) (sx_hd S a)
      | none => false
    | none => sx_go P po (sx_cks P po stp f) H S := by
  show Bool.rec (motive := fun _ => Bool) (Bool.rec (motive := fun _ => Bool) (Option.rec (motive := fun _ => Bool) (sx_go P po (sx_cks P po stp f) H S) (fun a => Option.rec (motive := fun _ => Bool) false (fun h => sx_go P po (sx_cks P po stp f) (h :: H) (sx_hd S a)) (sx_ent S a)) (sx_ant S.fr.an S.fr.pc)) true (sf_any (fun h => sx_mat h S) H)) true (stp S) = _
  rw [sf_b, sf_b, sf_any_eq]
  cases sx_ant S.fr.an S.fr.pc with
  | none => rfl
  | some a =>
    cases hx : sx_ent S a with
    | none => simp only [hx]
    | some h => simp only [hx]
section SXR
variable {P : sx_P} {w0 : pq_W} {J : pq_W → Prop} {po : sx_S → Option sx_V → Bool} {Post : pq_R → Prop} {N0 : Nat} {p0 : Nat → Int}
theorem sx_cks_ok {stp : sx_S → Bool} (hst : ∀ S p Kc ls st w, stp S = true → (∀ s, s < N0 → p s = p0 s) → N0 ≤ S.n → sx_Mt P.T P.A w0 p S Kc ls st w → sx_Ok Post S.k Kc S.fr.M S.fr.pc ls st w) (hct : ∀ q ∈ P.CT, sx_Kok P.T J q.1 q.2) (hJ : ∀ w, sx_Ty P.T w → sx_Fr P.A w0 w → J w) (hpo : ∀ S p ls st w rv r, po S rv = true → (∀ s, s < N0 → p s = p0 s) → N0 ≤ S.n → sx_Mt P.T P.A w0 p S [] ls st w → sx_rvm p rv r → Post (r, w)) : ∀ (f : Nat) (H : List sx_H) (S : sx_S), sx_cks P po stp f H S = true → sx_Fine P w0 Post N0 p0 H S := by
  intro f
  induction f with
  | zero => intro H S h; cases h
  | succ f ih =>
    intro H S h
    rw [sx_cks_s] at h
    cases hz : stp S with
    | true =>
      intro p z Kc ls st w m
      exact hst S p Kc ls st w hz z.1 z.2.1 m
    | false =>
    rw [hz] at h
    have h : (bif H.any (fun h => sx_mat h S) then true else match sx_ant S.fr.an S.fr.pc with
        | some a => match sx_ent S a with
          | some h => sx_go P po (sx_cks P po stp f) (h :: H) (sx_hd S a)
          | none => false
        | none => sx_go P po (sx_cks P po stp f) H S) = true := h
    cases hm : H.any (fun h => sx_mat h S) with
    | true =>
      intro p z Kc ls st w m
      rw [List.any_eq_true] at hm
      obtain ⟨q, hq, hm⟩ := hm
      exact sx_mat_ok (z.2.2 q hq).1 hm m
    | false =>
      rw [hm] at h
      have h : (match sx_ant S.fr.an S.fr.pc with
        | some a => match sx_ent S a with
          | some h => sx_go P po (sx_cks P po stp f) (h :: H) (sx_hd S a)
          | none => false
        | none => sx_go P po (sx_cks P po stp f) H S) = true := h
      cases ha : sx_ant S.fr.an S.fr.pc with
      | none =>
        rw [ha] at h
        exact sx_go_ok hct hJ hpo ih h
      | some a =>
        rw [ha] at h
        have h : (match sx_ent S a with
          | some h => sx_go P po (sx_cks P po stp f) (h :: H) (sx_hd S a)
          | none => false) = true := h
        cases he : sx_ent S a with
        | none => rw [he] at h; cases h
        | some hh =>
          rw [he] at h
          have h : sx_go P po (sx_cks P po stp f) (hh :: H) (sx_hd S a) = true := h
          have hfine := sx_go_ok hct hJ hpo ih h
          unfold sx_ent at he
          cases hs : sx_sms a.ms S.n a.hv with
          | none => rw [hs] at he; cases he
          | some q =>
            rw [hs] at he
            obtain ⟨hb, he⟩ := sx_bif he
            cases he
            obtain ⟨s1, s2, s3⟩ := sx_sms_ok hs
            intro p z Kc ls st w m
            -- going round, by how far it still is
            have round : ∀ (d : Nat) (p' : Nat → Int), (∀ s, s < S.n → p' s = p s) → (bif a.up then (q.2.2 - p' q.1).toNat else (p' q.1 - q.2.1).toNat) ≤ d → ∀ Kc ls st w, sx_Mt P.T P.A w0 p' (sx_hd S a) Kc ls st w → sx_Ok Post S.k Kc S.fr.M S.fr.pc ls st w := by
              intro d
              induction d with
              | zero =>
                intro p' h1 h2 Kc ls st w m2
                refine hfine p' ⟨fun s hs2 => by rw [h1 s (by have := z.2.1; omega), z.1 s hs2], by have := z.2.1; show N0 ≤ S.n + a.hv.length; omega, fun g hg => ?_⟩ Kc ls st w m2
                cases List.mem_cons.mp hg with
                | inl e =>
                  subst e
                  refine ⟨⟨hs, sx_Sat_agree h1 m.elt m.sat, sx_Fok_agree h1 m.clt m.fok, m.elt, m.clt, m.olt, m.flt, m.klt, m.tbm, fun p2 g1 g2 Kc2 ls2 st2 w2 m3 => ?_⟩, Nat.le_add_right _ _, s3, z.2.1⟩
                  exfalso
                  have i1 := m2.sat q (List.mem_append_left _ s1)
                  have i2 := m3.sat q (List.mem_append_left _ s1)
                  cases hu : a.up with
                  | true =>
                    rw [hu] at h2
                    have g2 : (bif a.up then p' q.1 < p2 q.1 else p2 q.1 < p' q.1) := g2
                    rw [hu] at g2
                    have h2 : (q.2.2 - p' q.1).toNat ≤ 0 := h2
                    have g2 : p' q.1 < p2 q.1 := g2
                    omega
                  | false =>
                    rw [hu] at h2
                    have g2 : (bif a.up then p' q.1 < p2 q.1 else p2 q.1 < p' q.1) := g2
                    rw [hu] at g2
                    have h2 : (p' q.1 - q.2.1).toNat ≤ 0 := h2
                    have g2 : p2 q.1 < p' q.1 := g2
                    omega
                | inr e =>
                  obtain ⟨k1, k2, k3, k4⟩ := z.2.2 g e
                  exact ⟨sx_HC_agree k1 h1 k2 k3, by show g.S.n ≤ S.n + _; omega, by show g.sm < S.n + _; omega, k4⟩
              | succ d ihd =>
                intro p' h1 h2 Kc ls st w m2
                refine hfine p' ⟨fun s hs2 => by rw [h1 s (by have := z.2.1; omega), z.1 s hs2], by have := z.2.1; show N0 ≤ S.n + a.hv.length; omega, fun g hg => ?_⟩ Kc ls st w m2
                cases List.mem_cons.mp hg with
                | inl e =>
                  subst e
                  refine ⟨⟨hs, sx_Sat_agree h1 m.elt m.sat, sx_Fok_agree h1 m.clt m.fok, m.elt, m.clt, m.olt, m.flt, m.klt, m.tbm, fun p2 g1 g2 Kc2 ls2 st2 w2 m3 => ?_⟩, Nat.le_add_right _ _, s3, z.2.1⟩
                  have g1 : ∀ s, s < S.n → p2 s = p' s := g1
                  refine ihd p2 (fun s hs2 => by rw [g1 s hs2, h1 s hs2]) ?_ Kc2 ls2 st2 w2 m3
                  have i1 := m2.sat q (List.mem_append_left _ s1)
                  have i2 := m3.sat q (List.mem_append_left _ s1)
                  cases hu : a.up with
                  | true =>
                    rw [hu] at h2
                    have g2 : (bif a.up then p' q.1 < p2 q.1 else p2 q.1 < p' q.1) := g2
                    rw [hu] at g2
                    have h2 : (q.2.2 - p' q.1).toNat ≤ d + 1 := h2
                    have g2 : p' q.1 < p2 q.1 := g2
                    show (q.2.2 - p2 q.1).toNat ≤ d
                    omega
                  | false =>
                    rw [hu] at h2
                    have g2 : (bif a.up then p' q.1 < p2 q.1 else p2 q.1 < p' q.1) := g2
                    rw [hu] at g2
                    have h2 : (p' q.1 - q.2.1).toNat ≤ d + 1 := h2
                    have g2 : p2 q.1 < p' q.1 := g2
                    show (p2 q.1 - q.2.1).toNat ≤ d
                    omega
                | inr e =>
                  obtain ⟨k1, k2, k3, k4⟩ := z.2.2 g e
                  exact ⟨sx_HC_agree k1 h1 k2 k3, by show g.S.n ≤ S.n + _; omega, by show g.sm < S.n + _; omega, k4⟩
            obtain ⟨q1, q2⟩ := sx_hin_ok m.sat m.fok m.lsm (hv := a.hv) (n := S.n) (p' := sx_hp p S.fr.ls S.n a.hv) hb (fun s _ _ => rfl)
            have h0 : ∀ s, s < S.n → sx_hp p S.fr.ls S.n a.hv s = p s := fun s hs2 => sx_hp_lt hs2
            exact round _ _ h0 (Nat.le_refl _) Kc ls st w (sx_hd_ok m h0 q1 q2)
end SXR
/-- what is known at a stop: slots, places, forms that are not above 0 -/
abbrev sx_Al : Type := List (Nat × sx_V) × sx_O × List sx_F
noncomputable def sx_alq (O o : sx_O) : Bool := o.all fun q => match sx_of O q.1 q.2.1 with
  | some v => sx_veq v q.2.2
  | none => false
theorem sx_alq_ok {p : Nat → Int} {w : pq_W} {O o : sx_O} (hO : sx_Ook p w O) (h : sx_alq O o = true) : sx_Ook p w o := fun q hq => by
  unfold sx_alq at h
  rw [List.all_eq_true] at h
  have h1 := h q hq
  split at h1
  · rename_i v hv
    have e := sx_veq_ok h1
    have h2 := hO _ (sx_of_mem hv)
    rw [e] at h2
    exact h2
  · cases h1
noncomputable def sx_alf (S : sx_S) (l : List sx_F) : Bool := l.all fun f => sx_hi S.E S.C f 0
theorem sx_alf_ok {p : Nat → Int} {S : sx_S} {l : List sx_F} (h1 : sx_Sat p S.E) (h2 : sx_Fok p S.C) (h : sx_alf S l = true) : ∀ f ∈ l, sx_ev p f ≤ 0 := fun f hf => by
  unfold sx_alf at h
  rw [List.all_eq_true] at h
  exact sx_hi_ok h1 h2 (h f hf)
noncomputable def sx_als (S : sx_S) (l : List (Nat × sx_V)) : Bool := l.all fun q => match sx_sl S.fr.ls q.1 with
  | some v => sx_veq v q.2
  | none => false
theorem sx_als_ok {p : Nat → Int} {S : sx_S} {ls : pq_L} {l : List (Nat × sx_V)} (hm : sx_lm p S.fr.ls ls) (h : sx_als S l = true) : sx_lm p l ls := fun q hq => by
  unfold sx_als at h
  rw [List.all_eq_true] at h
  have h1 := h q hq
  split at h1
  · rename_i v hv
    have e := sx_veq_ok h1
    obtain ⟨x, k1, k2⟩ := hm _ (sx_sl_mem hv)
    exact ⟨x, k1, by rw [← e]; exact k2⟩
  · cases h1
noncomputable def sx_alO (p : Nat → Int) (ls : pq_L) (w : pq_W) (a : sx_Al) : Prop := sx_lm p a.1 ls ∧ sx_Ook p w a.2.1 ∧ ∀ f ∈ a.2.2, sx_ev p f ≤ 0
/-- the stop: method, depth, place, what is known -/
noncomputable def sx_stop (j k hd : Nat) (al : List sx_Al) (S : sx_S) : Bool := Nat.beq S.fr.pc hd && Nat.beq S.fr.j j && Nat.beq S.k k && S.K.isEmpty && S.fr.st.isEmpty && al.any fun a => sx_als S a.1 && sx_alq S.O a.2.1 && sx_alf S a.2.2
/-- an answer: exact, between bounds, or none -/
abbrev sx_Ae : Type := ((sx_V ⊕ (Int × Int)) ⊕ Unit) × sx_O × List sx_F
noncomputable def sx_ae1 (S : sx_S) (rv : Option sx_V) (a : (sx_V ⊕ (Int × Int)) ⊕ Unit) : Bool := match a, rv with
  | .inr (), none => true
  | .inl (.inl v), some u => sx_veq u v
  | .inl (.inr i), some (.inl (.inl e)) => sx_in S.E S.C e i.1 i.2
  | _, _ => false
noncomputable def sx_aeO1 (p : Nat → Int) (r : Option Value) (a : (sx_V ⊕ (Int × Int)) ⊕ Unit) : Prop := match a, r with
  | .inr (), none => True
  | .inl (.inl v), some x => sx_d p v x
  | .inl (.inr i), some (.int y) => i.1 ≤ y.toInt ∧ y.toInt ≤ i.2
  | _, _ => False
theorem sx_ae1_ok {p : Nat → Int} {S : sx_S} {rv : Option sx_V} {r : Option Value} {a : (sx_V ⊕ (Int × Int)) ⊕ Unit} (h1 : sx_Sat p S.E) (h2 : sx_Fok p S.C) (hr : sx_rvm p rv r) (h : sx_ae1 S rv a = true) : sx_aeO1 p r a := by
  unfold sx_ae1 at h
  split at h
  · match r, hr with
    | none, _ => trivial
  · rename_i v u
    match r, hr with
    | some x, hr =>
      have hr : sx_d p u x := hr
      rw [sx_veq_ok h] at hr
      exact hr
  · rename_i i e
    match r, hr with
    | some (.int y), hr =>
      have hr : y.toInt = sx_ev p e := hr
      show i.1 ≤ y.toInt ∧ y.toInt ≤ i.2
      rw [hr]
      exact sx_in_ok h1 h2 h
  · cases h
noncomputable def sy_ret (re : List sx_Ae) (S : sx_S) (rv : Option sx_V) : Bool := re.any fun a => sx_ae1 S rv a.1 && sx_alq S.O a.2.1 && sx_alf S a.2.2
noncomputable def sx_aeO (p : Nat → Int) (r : Option Value) (w : pq_W) (a : sx_Ae) : Prop := sx_aeO1 p r a.1 ∧ sx_Ook p w a.2.1 ∧ ∀ f ∈ a.2.2, sx_ev p f ≤ 0
/-- a state by hand: intervals of the symbols, slots, places -/
noncomputable def sx_s0 (k j : Nat) (M : pq_M) (pc : Nat) (iv : List (Int × Int)) (C : List sx_F) (ls : List (Nat × sx_V)) (O : sx_O) (an : List (Nat × sx_an)) : sx_S := (iv.length, sx_nvs 0 iv, C, O, k, (j, M, pc, ls, [], an), [])
theorem sy_nvs_ok {p : Nat → Int} : ∀ {iv : List (Int × Int)} {n : Nat}, sx_ivs p n iv → sx_Sat p (sx_nvs n iv)
  | [], _, _ => fun q hq => by cases hq
  | i :: r, n, h => fun q hq => by
    cases List.mem_cons.mp hq with
    | inl e => rw [e]; exact ⟨h.1, h.2.1⟩
    | inr e => exact sy_nvs_ok h.2.2 q e
theorem sy_nvs_lt : ∀ {iv : List (Int × Int)} {n : Nat}, sx_Elt (n + iv.length) (sx_nvs n iv)
  | [], _ => fun q hq => by cases hq
  | i :: r, n => fun q hq => by
    rw [List.length_cons]
    cases List.mem_cons.mp hq with
    | inl e => rw [e]; show n < _; omega
    | inr e =>
      have := sy_nvs_lt (iv := r) (n := n + 1) q e
      omega
noncomputable def sx_fltb (n : Nat) (e : sx_F) : Bool := e.2.all fun t => Nat.blt t.1 n
theorem sx_fltb_ok {n : Nat} {e : sx_F} (h : sx_fltb n e = true) : sx_lt n e := fun q hq => by
  unfold sx_fltb at h
  rw [List.all_eq_true] at h
  exact Nat.le_of_ble_eq_true (h q hq)
noncomputable def sx_vltb (n : Nat) : sx_V → Bool
  | .inl (.inl e) => sx_fltb n e
  | .inl (.inr e) => sx_fltb n e
  | .inr (.inl e) => sx_fltb n e
  | .inr (.inr _) => true
theorem sx_vltb_ok {n : Nat} {v : sx_V} (h : sx_vltb n v = true) : sx_vlt n v := by
  rcases v with (e | e) | (e | k)
  · exact sx_fltb_ok h
  · exact sx_fltb_ok h
  · exact sx_fltb_ok h
  · trivial
noncomputable def sx_s0b (n : Nat) (C : List sx_F) (ls : List (Nat × sx_V)) (O : sx_O) : Bool := C.all (sx_fltb n) && ls.all (fun q => sx_vltb n q.2) && sx_oltb n O
theorem sx_s0_ok {T : List sx_ct} {A : sx_A} {w0 w : pq_W} {p : Nat → Int} {k j : Nat} {M : pq_M} {pc : Nat} {iv : List (Int × Int)} {C : List sx_F} {sl : List (Nat × sx_V)} {O : sx_O} {an : List (Nat × sx_an)} {ls : pq_L} (hM : pq_tab[j]? = some M) (hi : sx_ivs p 0 iv) (hC : sx_Fok p C) (hl : sx_lm p sl ls) (ho : sx_Ook p w O) (ht : sx_Ty T w) (hf : sx_Fr A w0 w) (hb : sx_s0b iv.length C sl O = true) : sx_Mt T A w0 p (sx_s0 k j M pc iv C sl O an) [] ls [] w := by
  unfold sx_s0b at hb
  rw [Bool.and_eq_true, Bool.and_eq_true] at hb
  obtain ⟨⟨b1, b2⟩, b3⟩ := hb
  rw [List.all_eq_true] at b1 b2
  exact sx_mkMt (sat := sy_nvs_ok hi) (fok := hC)
    (elt := fun q hq => by
      have := sy_nvs_lt (iv := iv) (n := 0) q hq
      rw [Nat.zero_add] at this
      exact this)
    (clt := fun f hf => sx_fltb_ok (b1 f hf)) (olt := sx_oltb_ok b3) (flt := ⟨fun q hq => sx_vltb_ok (b2 q hq), fun v hv => by cases hv⟩) (klt := fun f hf => by cases hf) (ook := ho) (typ := ht) (frm := hf) (lsm := hl) (stm := trivial) (ksm := trivial) (tbm := ⟨hM, fun f hf => by cases hf⟩)
/-- a stretch from a state to its end or to the stop -/
theorem sy_sg {P : sx_P} {w0 w : pq_W} {J : pq_W → Prop} {Post : pq_R → Prop} {S : sx_S} {p0 : Nat → Int} {ls : pq_L} {st : List Value} {hd f : Nat} {al : List sx_Al} {re : List sx_Ae} (h : sx_go P (sy_ret re) (sx_cks P (sy_ret re) (sx_stop S.fr.j S.k hd al) f) [] S = true) (m : sx_Mt P.T P.A w0 p0 S [] ls st w) (hct : ∀ q ∈ P.CT, sx_Kok P.T J q.1 q.2) (hJ : ∀ w, sx_Ty P.T w → sx_Fr P.A w0 w → J w)
    (hret : ∀ p r w, (∀ s, s < S.n → p s = p0 s) → sx_Ty P.T w → sx_Fr P.A w0 w → (∃ a ∈ re, sx_aeO p r w a) → Post (r, w))
    (hst : ∀ p ls w, (∀ s, s < S.n → p s = p0 s) → sx_Ty P.T w → sx_Fr P.A w0 w → (∃ a ∈ al, sx_alO p ls w a) → ∃ res, pq_Go S.k S.fr.M hd ls [] w 0 0 res ∧ Post res) : ∃ res, pq_Go S.k S.fr.M S.fr.pc ls st w 0 0 res ∧ Post res := by
  have hpo : ∀ S' p ls st w rv r, sy_ret re S' rv = true → (∀ s, s < S.n → p s = p0 s) → S.n ≤ S'.n → sx_Mt P.T P.A w0 p S' [] ls st w → sx_rvm p rv r → Post (r, w) := by
    intro S' p ls st w rv r h1 h2 h3 m2 h4
    unfold sy_ret at h1
    rw [List.any_eq_true] at h1
    obtain ⟨a, ha, h1⟩ := h1
    rw [Bool.and_eq_true, Bool.and_eq_true] at h1
    exact hret p r w h2 m2.typ m2.frm ⟨a, ha, sx_ae1_ok m2.sat m2.fok h4 h1.1.1, sx_alq_ok m2.ook h1.1.2, sx_alf_ok m2.sat m2.fok h1.2⟩
  have hs : ∀ S' p Kc ls st w, sx_stop S.fr.j S.k hd al S' = true → (∀ s, s < S.n → p s = p0 s) → S.n ≤ S'.n → sx_Mt P.T P.A w0 p S' Kc ls st w → sx_Ok Post S'.k Kc S'.fr.M S'.fr.pc ls st w := by
    intro S' p Kc ls st w h1 h2 h3 m2
    unfold sx_stop at h1
    simp only [Bool.and_eq_true] at h1
    obtain ⟨⟨⟨⟨⟨b1, b2⟩, b3⟩, b4⟩, b5⟩, b6⟩ := h1
    have eM : S'.fr.M = S.fr.M := by
      have k1 := m2.tbm.1
      rw [Nat.eq_of_beq_eq_true b2, m.tbm.1] at k1
      exact (Option.some.inj k1).symm
    have eK : Kc = [] := by
      have k1 := m2.ksm
      rw [List.isEmpty_iff.mp b4] at k1
      cases Kc with
      | nil => rfl
      | cons c K => exact k1.elim
    have es : st = [] := by
      have k1 := m2.stm
      rw [List.isEmpty_iff.mp b5] at k1
      cases st with
      | nil => rfl
      | cons c K => exact k1.elim
    subst eK
    subst es
    rw [List.any_eq_true] at b6
    obtain ⟨a, ha, b6⟩ := b6
    rw [Bool.and_eq_true, Bool.and_eq_true] at b6
    have key := hst p ls w h2 m2.typ m2.frm ⟨a, ha, sx_als_ok m2.lsm b6.1.1, sx_alq_ok m2.ook b6.1.2, sx_alf_ok m2.sat m2.fok b6.2⟩
    rw [eM, Nat.eq_of_beq_eq_true b1, Nat.eq_of_beq_eq_true b3]
    exact key
  have hc := fun H S' => sx_cks_ok (P := P) (Post := Post) (N0 := S.n) (p0 := p0) hs hct hJ hpo f H S'
  exact sx_go_ok hct hJ hpo hc h p0 ⟨fun _ _ => rfl, Nat.le_refl _, fun h hh => by cases hh⟩ [] ls st w m
noncomputable def sy_iv : sx_ft → Int × Int
  | .inl i => i
  | .inr (.inl ()) => (-9223372036854775808, 9223372036854775807)
  | _ => (0, 0)
theorem sy_iv_ok : ∀ {as : List sx_ft} {xs : List Value} {n : Nat} {p : Nat → Int}, sx_noany as = true → sx_argm as xs → (∀ s, n ≤ s → p s = sx_pv xs n s) → sx_ivs p n (as.map sy_iv)
  | [], _, _, _, _, _, _ => trivial
  | a :: r, [], _, _, _, h, _ => h.elim
  | a :: r, x :: s, n, p, hn, h, hp => by
    have h0 : p n = sx_v2i x := by
      rw [hp n (Nat.le_refl _)]
      show (if n = n then sx_v2i x else _) = _
      rw [if_pos rfl]
    have hr : ∀ t, n + 1 ≤ t → p t = sx_pv s (n + 1) t := fun t ht => by
      rw [hp t (by omega)]
      show (if t = n then sx_v2i x else _) = _
      rw [if_neg (by omega)]
    have key : (sy_iv a).1 ≤ p n ∧ p n ≤ (sy_iv a).2 := by
      rw [h0]
      have h1 := h.1
      rcases a with i | (u | (k | u))
      · match x, h1 with
        | .int y, h1 => exact h1
      · match x, h1 with
        | .long y, h1 =>
          show (-9223372036854775808 : Int) ≤ y.toInt ∧ y.toInt ≤ 9223372036854775807
          exact ⟨y.minValue_le_toInt, y.toInt_le⟩
      · match x, h1 with
        | .ref y, h1 => exact ⟨Int.le_refl _, Int.le_refl _⟩
      · cases hn
    have hn2 : sx_noany r = true := by
      rcases a with i | (u | (k | u))
      · exact hn
      · exact hn
      · exact hn
      · cases hn
    exact ⟨key.1, key.2, sy_iv_ok hn2 h.2 hr⟩
theorem sy_ivs_agree {p p2 : Nat → Int} : ∀ {iv : List (Int × Int)} {n : Nat}, sx_ivs p n iv → (∀ s, s < n + iv.length → p2 s = p s) → sx_ivs p2 n iv
  | [], _, _, _ => trivial
  | i :: r, n, h, hp => by
    have e := hp n (by rw [List.length_cons]; omega)
    refine ⟨by rw [e]; exact h.1, by rw [e]; exact h.2.1, sy_ivs_agree h.2.2 (fun s hs => hp s (by rw [List.length_cons]; omega))⟩
theorem sy_lm2 {p : Nat → Int} {a : Nat × sx_V} {r : List (Nat × sx_V)} {ls : pq_L} (h : sx_lm p (a :: r) ls) : (∃ x, pq_lk ls a.1 = some x ∧ sx_d p a.2 x) ∧ sx_lm p r ls := ⟨h a List.mem_cons_self, fun q hq => h q (List.mem_cons_of_mem _ hq)⟩
theorem sy_lm1 {p : Nat → Int} {a : Nat × sx_V} {r : List (Nat × sx_V)} {ls : pq_L} (h : ∃ x, pq_lk ls a.1 = some x ∧ sx_d p a.2 x) (hr : sx_lm p r ls) : sx_lm p (a :: r) ls := fun q hq => by
  cases List.mem_cons.mp hq with
  | inl e => rw [e]; exact h
  | inr e => exact hr q e
theorem sy_lm0 {p : Nat → Int} {ls : pq_L} : sx_lm p [] ls := fun q hq => by cases hq
theorem sy_O0 {p : Nat → Int} {w : pq_W} : sx_Ook p w [] := fun q hq => by cases hq
theorem sy_O1 {p : Nat → Int} {w : pq_W} {a : Nat × sx_F × sx_V} {r : sx_O} (h : sx_O1 p w a) (hr : sx_Ook p w r) : sx_Ook p w (a :: r) := fun q hq => by
  cases List.mem_cons.mp hq with
  | inl e => rw [e]; exact h
  | inr e => exact hr q e
theorem sy_F0 {p : Nat → Int} : sx_Fok p [] := fun q hq => by cases hq
theorem sy_one {α : Type} {Q : α → Prop} {a : α} (h : ∃ x ∈ [a], Q x) : Q a := by
  obtain ⟨x, hx, h⟩ := h
  cases List.mem_singleton.mp hx
  exact h
/-- the stretch at a method's start -/
theorem sy_ent {P : sx_P} {w0 : pq_W} {J : pq_W → Prop} {Post : pq_R → Prop} {j k f hd : Nat} {M : pq_M} {as : List sx_ft} {kn : sx_O} {kg : sx_Gh} {xs : List Value} {al : List sx_Al} {re : List sx_Ae} (h : sx_go P (sy_ret re) (sx_cks P (sy_ret re) (sx_stop j k hd al) f) [] (sx_beg P k j M as kn kg) = true) (hct : ∀ q ∈ P.CT, sx_Kok P.T J q.1 q.2) (hJ : ∀ w, sx_Ty P.T w → sx_Fr P.A w0 w → J w) (hM : pq_tab[j]? = some M) (hpre : (sx_pre P M as && sx_oltb as.length kn && sx_gltb as.length kg) = true) (hx : sx_argm as xs) (hkn : sx_Ook (sx_pv xs 0) w0 kn) (hkg : sx_Gok (sx_pv xs 0) w0 kg) (ht : sx_Ty P.T w0)
    (hret : ∀ p r w, (∀ s, s < as.length → p s = sx_pv xs 0 s) → sx_Ty P.T w → sx_Fr P.A w0 w → (∃ a ∈ re, sx_aeO p r w a) → Post (r, w))
    (hst : ∀ p ls w, (∀ s, s < as.length → p s = sx_pv xs 0 s) → sx_Ty P.T w → sx_Fr P.A w0 w → (∃ a ∈ al, sx_alO p ls w a) → ∃ res, pq_Go k M hd ls [] w 0 0 res ∧ Post res) : ∃ r w1, pq_Ru (k + 1) j xs w0 (r, w1) ∧ Post (r, w1) := by
  rw [Bool.and_eq_true, Bool.and_eq_true] at hpre
  obtain ⟨⟨hpre, hkl⟩, hgl⟩ := hpre
  have hkl := sx_oltb_ok hkl
  have hgl := sx_gltb_ok hgl
  unfold sx_pre at hpre
  rw [Bool.and_eq_true, Bool.and_eq_true] at hpre
  obtain ⟨⟨q1, q2⟩, q3⟩ := hpre
  obtain ⟨m1, m2⟩ := sx_avs_ok (n := 0) (p := sx_pv xs 0) q1 hx (fun s _ _ => rfl)
  obtain ⟨l1, l2⟩ := sx_avs_lt (as := as) (n := 0)
  rw [Nat.zero_add] at l1 l2
  obtain ⟨p', g1, g2, g3⟩ := sx_gO_ok (n := as.length) (Nat.le_refl _) hgl hkg
  obtain ⟨g4, g5⟩ := sx_gO_lt (g := kg) (n := as.length) (Nat.le_refl _) hgl
  have le : as.length ≤ as.length + kg.length := Nat.le_add_right _ _
  have hm : sx_Mt P.T P.A w0 p' (sx_beg P k j M as kn kg) [] (lv_args 0 xs) [] w0 := sx_mkMt
    (sat := fun q hq => by
      cases List.mem_append.mp hq with
      | inl e => exact g3 q e
      | inr e => exact sx_Sat_agree g1 l2 m2 q e)
    (fok := fun f hf => by cases hf)
    (elt := fun q hq => by
      cases List.mem_append.mp hq with
      | inl e => exact g5 q e
      | inr e => exact Nat.lt_of_lt_of_le (l2 q e) le)
    (clt := fun f hf => by cases hf)
    (olt := fun q hq => by
      cases List.mem_append.mp hq with
      | inl e => exact g4 q e
      | inr e => exact sx_Olt_mono le hkl q e)
    (flt := ⟨fun q hq => sx_vlt_mono le (sx_args_lt l1 q hq), fun v hv => by cases hv⟩)
    (klt := fun f hf => by cases hf)
    (ook := fun q hq => by
      cases List.mem_append.mp hq with
      | inl e => exact g2 q e
      | inr e => exact sx_Ook_agree g1 hkl hkn q e)
    (typ := ht)
    (frm := sx_Fr_refl _ _)
    (lsm := sx_lm_agree g1 (sx_args_lt l1) (sx_args_ok m1))
    (stm := trivial)
    (ksm := trivial)
    (tbm := ⟨hM, fun f hf => by cases hf⟩)
  have ag : ∀ p : Nat → Int, (∀ s, s < (sx_beg P k j M as kn kg).n → p s = p' s) → ∀ s, s < as.length → p s = sx_pv xs 0 s := fun p hp s hs => by
    rw [hp s (Nat.lt_of_lt_of_le hs le)]
    exact g1 s hs
  obtain ⟨res, g, hp⟩ := sy_sg (Post := Post) h hm hct hJ (fun p r w h1 h2 h3 h4 => hret p r w (ag p h1) h2 h3 h4) (fun p ls w h1 h2 h3 h4 => hst p ls w (ag p h1) h2 h3 h4)
  refine ⟨res.1, res.2, ru_of hM ?_ g, hp⟩
  rw [Bool.and_eq_true]
  refine ⟨?_, sx_rcv_ok q3 m1 ht⟩
  rw [sx_ssum_ok m1]
  exact q2
theorem sy_rng {p : Nat → Int} {r : Option Value} {lo hi : Int} (h : sx_aeO1 p r (.inl (.inr (lo, hi)))) : sx_rtm (some (.inl (lo, hi))) r := by
  match r, h with
  | some (.int y), h => exact h
