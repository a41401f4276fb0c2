/-! the walk: rows, loops -/
abbrev sx_R : Type := Option (List sx_S ⊕ Option sx_V)
noncomputable def sx_ol (o : Option (List sx_S)) : sx_R := match o with
  | some l => some (.inl l)
  | none => none
noncomputable def sx_back (S : sx_S) (f : sx_fr) (K : List sx_fr) (rv : Option sx_V) : sx_S := (S.n, S.E, S.C, S.O, S.k + 1, (f.j, f.M, f.pc, f.ls, rv.toList ++ f.st, f.an), K)
noncomputable def sx_end (S : sx_S) (cat : Nat) : sx_R := match sx_fin S cat with
  | none => none
  | some rv => match S.K with
    | [] => some (.inr rv)
    | f :: K => some (.inl [sx_back S f K rv])
noncomputable def sx_c8b (S : sx_S) (nx : Nat) (i : Instr) : Option (List sx_S) := match sx_c8r S nx i with
  | some l => some l
  | none => sx_c8 S nx i
noncomputable def sx_lk1 (l : List pq_N) (pc : Nat) : Option pq_N := List.rec (motive := fun _ => Option pq_N) none (fun q _ ih => Bool.rec (motive := fun _ => Option pq_N) ih (some q) (Nat.beq q.1 pc)) l
theorem sx_lk1_eq (pc : Nat) : ∀ l : List pq_N, sx_lk1 l pc = pq_look1 l pc
  | [] => rfl
  | q :: r => by
    show Bool.rec (motive := fun _ => Option pq_N) (sx_lk1 r pc) (some q) (Nat.beq q.1 pc) = pq_look1 (q :: r) pc
    unfold pq_look1
    rw [sf_b, sx_lk1_eq pc r]
noncomputable def sx_lkb (b : pq_B) (pc : Nat) : Option pq_N := List.rec (motive := fun _ => Option pq_N) none (fun q _ ih => Bool.rec (motive := fun _ => Option pq_N) ih (sx_lk1 q.2 pc) (Nat.ble pc q.1)) b
theorem sx_lkb_eq (pc : Nat) : ∀ b : pq_B, sx_lkb b pc = pq_look b pc
  | [] => rfl
  | q :: r => by
    show Bool.rec (motive := fun _ => Option pq_N) (sx_lkb r pc) (sx_lk1 q.2 pc) (Nat.ble pc q.1) = pq_look (q :: r) pc
    unfold pq_look
    rw [sf_b, sx_lkb_eq pc r, sx_lk1_eq]
noncomputable def sx_nx (P : sx_P) (S : sx_S) (cat nx : Nat) (i : Instr) (a : List Nat) (v : Value) : sx_R := Bool.rec (motive := fun _ => sx_R) none (Bool.rec (motive := fun _ => sx_R) (Bool.rec (motive := fun _ => sx_R) (Bool.rec (motive := fun _ => sx_R) (Bool.rec (motive := fun _ => sx_R) (Bool.rec (motive := fun _ => sx_R) (sx_ol (sx_c32 S nx)) (sx_ol (sx_c31 P S nx v)) (Nat.ble cat 31)) (Bool.rec (motive := fun _ => sx_R) (sx_ol (sx_c0 S nx v)) (sx_ol (sx_c29 S nx a)) (Nat.ble cat 29)) (Nat.ble cat 30)) (Bool.rec (motive := fun _ => sx_R) (Bool.rec (motive := fun _ => sx_R) (sx_ol (sx_c28 P S nx a)) (sx_ol (sx_c27 P S nx)) (Nat.ble cat 27)) (Bool.rec (motive := fun _ => sx_R) (none) (none) (Nat.ble cat 25)) (Nat.ble cat 26)) (Nat.ble cat 28)) (Bool.rec (motive := fun _ => sx_R) (Bool.rec (motive := fun _ => sx_R) (Bool.rec (motive := fun _ => sx_R) (none) (sx_ol (sx_c23 P S nx)) (Nat.ble cat 23)) (Bool.rec (motive := fun _ => sx_R) (sx_ol (sx_c22 P (sx_nS S) nx a)) (sx_ol (sx_c21 P (sx_nS S) nx a)) (Nat.ble cat 21)) (Nat.ble cat 22)) (Bool.rec (motive := fun _ => sx_R) (Bool.rec (motive := fun _ => sx_R) (sx_ol (sx_c20 P S nx a)) (sx_ol (sx_c19 P S nx a)) (Nat.ble cat 19)) (Bool.rec (motive := fun _ => sx_R) (sx_end S 18) (sx_end S 17) (Nat.ble cat 17)) (Nat.ble cat 18)) (Nat.ble cat 20)) (Nat.ble cat 24)) (Bool.rec (motive := fun _ => sx_R) (Bool.rec (motive := fun _ => sx_R) (Bool.rec (motive := fun _ => sx_R) (Bool.rec (motive := fun _ => sx_R) (sx_end S 16) (sx_ol (sx_c15 S i a)) (Nat.ble cat 15)) (Bool.rec (motive := fun _ => sx_R) (sx_ol (sx_c14 S a)) (sx_ol (sx_c13 S nx i a)) (Nat.ble cat 13)) (Nat.ble cat 14)) (Bool.rec (motive := fun _ => sx_R) (Bool.rec (motive := fun _ => sx_R) (sx_ol (sx_c12 S nx i a)) (sx_ol (sx_c11 S nx)) (Nat.ble cat 11)) (Bool.rec (motive := fun _ => sx_R) (sx_ol (sx_c10 S nx)) (sx_ol (sx_c9 S nx i)) (Nat.ble cat 9)) (Nat.ble cat 10)) (Nat.ble cat 12)) (Bool.rec (motive := fun _ => sx_R) (Bool.rec (motive := fun _ => sx_R) (Bool.rec (motive := fun _ => sx_R) (sx_ol (sx_c8b S nx i)) (sx_ol (sx_c7 S nx a v)) (Nat.ble cat 7)) (Bool.rec (motive := fun _ => sx_R) (sx_ol (sx_c4 sx_isR S nx a)) (sx_ol (sx_c4 sx_isL S nx a)) (Nat.ble cat 5)) (Nat.ble cat 6)) (Bool.rec (motive := fun _ => sx_R) (Bool.rec (motive := fun _ => sx_R) (sx_ol (sx_c4 sx_isI2 S nx a)) (sx_ol (sx_c1 sx_isR S nx a)) (Nat.ble cat 3)) (Bool.rec (motive := fun _ => sx_R) (sx_ol (sx_c1 sx_isL S nx a)) (Bool.rec (motive := fun _ => sx_R) (sx_ol (sx_c1 sx_isI S nx a)) (sx_ol (sx_c0 S nx v)) (Nat.ble cat 0)) (Nat.ble cat 1)) (Nat.ble cat 2)) (Nat.ble cat 4)) (Nat.ble cat 8)) (Nat.ble cat 16)) (Nat.ble cat 32)
noncomputable def sx_next (P : sx_P) (S : sx_S) : sx_R := Option.rec (motive := fun _ => sx_R) none (fun q => sx_nx P S q.2.1 q.2.2.1 q.2.2.2.1 q.2.2.2.2.1 q.2.2.2.2.2.1) (sx_lkb (pq_cd S.fr.M) S.fr.pc)
/-- what a row must bring -/
noncomputable def sx_Well (P : sx_P) (w0 : pq_W) (S : sx_S) (R : sx_R) : Prop := match R with
  | none => True
  | some (.inl l) => sx_Goes P w0 S l
  | some (.inr rv) => ∀ p Kc ls st w, sx_Mt P.T P.A w0 p S Kc ls st w → Kc = [] ∧ ∃ r, sx_rvm p rv r ∧ ∀ Post : pq_R → Prop, Post (r, w) → sx_Ok Post S.k Kc S.fr.M S.fr.pc ls st w
theorem sx_ol_ok {P : sx_P} {w0 : pq_W} {S : sx_S} {o : Option (List sx_S)} (h : ∀ l, o = some l → sx_Goes P w0 S l) : sx_Well P w0 S (sx_ol o) := by
  cases o with
  | none => trivial
  | some l => exact h l rfl
theorem sx_rvl {p : Nat → Int} {rv : Option sx_V} {r : Option Value} {a : List sx_V} {s : List Value} (h : sx_rvm p rv r) (hm : sx_sm p a s) : sx_sm p (rv.toList ++ a) (r.toList ++ s) := by
  cases rv with
  | none =>
    cases r with
    | none => exact hm
    | some x => exact h.elim
  | some z =>
    cases r with
    | none => exact h.elim
    | some x => exact ⟨h, hm⟩
theorem sx_end_ok {P : sx_P} {w0 : pq_W} {S : sx_S} {cat pc0 nx t : Nat} {i : Instr} {a : List Nat} {v : Value} (hq : pq_look (pq_cd S.fr.M) S.fr.pc = some (pc0, cat, nx, i, a, v, t)) : sx_Well P w0 S (sx_end S cat) := by
  unfold sx_end
  cases hf : sx_fin S cat with
  | none => trivial
  | some rv =>
    cases hK : S.K with
    | nil =>
      intro p Kc ls st w m
      obtain ⟨r, h1, _, h2⟩ := sx_fin_ok (P := P) (pc0 := pc0) (nx := nx) (i := i) (a := a) (v := v) (t := t) hf m
      have hk := m.ksm
      rw [hK] at hk
      cases Kc with
      | cons c K => exact hk.elim
      | nil => exact ⟨rfl, r, h1, fun Post hp => (sx_ret (Post := Post) (k := S.k) hq h2).2 hp⟩
    | cons f K =>
      intro p Kc ls st w m
      obtain ⟨r, h1, h3, h2⟩ := sx_fin_ok (P := P) (pc0 := pc0) (nx := nx) (i := i) (a := a) (v := v) (t := t) hf m
      have hk := m.ksm
      have hkl := m.klt
      have htb := m.tbm
      rw [hK] at hk hkl htb
      cases Kc with
      | nil => exact hk.elim
      | cons c Kc =>
        obtain ⟨⟨e1, e2, e3, e4⟩, hk2⟩ := hk
        have hfl := hkl f List.mem_cons_self
        refine ⟨_, List.mem_singleton.mpr rfl, Kc, c.2.2.1, r.toList ++ c.2.2.2, w, ⟨p, fun _ _ => rfl, Nat.le_refl _, (sx_mkMt (sat := m.sat) (fok := m.fok) (elt := m.elt) (clt := m.clt) (olt := m.olt) (flt := ⟨hfl.1, ?_⟩) (klt := fun g hg => hkl g (List.mem_cons_of_mem _ hg)) (ook := m.ook) (typ := m.typ) (frm := m.frm) (lsm := e3) (stm := sx_rvl h1 e4) (ksm := hk2) (tbm := ⟨htb.2 f List.mem_cons_self, fun g hg => htb.2 g (List.mem_cons_of_mem _ hg)⟩))⟩, fun Post hok => ?_⟩
        · intro v hv
          cases rv with
          | none => exact hfl.2 v hv
          | some z =>
            cases List.mem_cons.mp hv with
            | inl e => rw [e]; exact h3 z rfl
            | inr e => exact hfl.2 v e
        · refine (sx_ret (Post := Post) (k := S.k) hq h2).1 (c := c) ?_
          rw [e1, e2]
          exact hok
theorem sx_next_ok {P : sx_P} {w0 : pq_W} {S : sx_S} {J : pq_W → Prop} (hct : ∀ q ∈ P.CT, sx_Kok P.T J q.1 q.2) (hJ : ∀ w, sx_Ty P.T w → sx_Fr P.A w0 w → J w) : sx_Well P w0 S (sx_next P S) := by
  unfold sx_next
  rw [sx_lkb_eq]
  cases hq : pq_look (pq_cd S.fr.M) S.fr.pc with
  | none => trivial
  | some q =>
    obtain ⟨pc0, cat, nx, i, a, v, t⟩ := q
    show sx_Well P w0 S (sx_nx P S cat nx i a v)
    match cat, hq with
    | 0, hq =>
      show sx_Well P w0 S (sx_ol (sx_c0 S nx v))
      exact sx_ol_ok (fun l h => sx_c0_ok hq h)
    | 1, hq =>
      show sx_Well P w0 S (sx_ol (sx_c1 sx_isI S nx a))
      exact sx_ol_ok (fun l h => sx_l1_ok hq h)
    | 2, hq =>
      show sx_Well P w0 S (sx_ol (sx_c1 sx_isL S nx a))
      exact sx_ol_ok (fun l h => sx_l2_ok hq h)
    | 3, hq =>
      show sx_Well P w0 S (sx_ol (sx_c1 sx_isR S nx a))
      exact sx_ol_ok (fun l h => sx_l3_ok hq h)
    | 4, hq =>
      show sx_Well P w0 S (sx_ol (sx_c4 sx_isI2 S nx a))
      exact sx_ol_ok (fun l h => sx_s4_ok hq h)
    | 5, hq =>
      show sx_Well P w0 S (sx_ol (sx_c4 sx_isL S nx a))
      exact sx_ol_ok (fun l h => sx_s5_ok hq h)
    | 6, hq =>
      show sx_Well P w0 S (sx_ol (sx_c4 sx_isR S nx a))
      exact sx_ol_ok (fun l h => sx_s6_ok hq h)
    | 7, hq =>
      show sx_Well P w0 S (sx_ol (sx_c7 S nx a v))
      exact sx_ol_ok (fun l h => sx_c7_ok hq h)
    | 8, hq =>
      show sx_Well P w0 S (sx_ol (sx_c8b S nx i))
      refine sx_ol_ok (fun l h => ?_)
      unfold sx_c8b at h
      split at h
      · rename_i l2 h2
        cases h
        exact sx_c8r_ok hq h2
      · exact sx_c8_ok hq h
    | 9, hq =>
      show sx_Well P w0 S (sx_ol (sx_c9 S nx i))
      exact sx_ol_ok (fun l h => sx_c9_ok hq h)
    | 10, hq =>
      show sx_Well P w0 S (sx_ol (sx_c10 S nx))
      exact sx_ol_ok (fun l h => sx_c10_ok hq h)
    | 11, hq =>
      show sx_Well P w0 S (sx_ol (sx_c11 S nx))
      exact sx_ol_ok (fun l h => sx_c11_ok hq h)
    | 12, hq =>
      show sx_Well P w0 S (sx_ol (sx_c12 S nx i a))
      exact sx_ol_ok (fun l h => sx_c12_ok hq h)
    | 13, hq =>
      show sx_Well P w0 S (sx_ol (sx_c13 S nx i a))
      exact sx_ol_ok (fun l h => sx_c13_ok hq h)
    | 14, hq =>
      show sx_Well P w0 S (sx_ol (sx_c14 S a))
      exact sx_ol_ok (fun l h => sx_c14_ok hq h)
    | 15, hq =>
      show sx_Well P w0 S (sx_ol (sx_c15 S i a))
      exact sx_ol_ok (fun l h => sx_c15_ok hq h)
    | 16, hq =>
      show sx_Well P w0 S (sx_end S 16)
      exact sx_end_ok hq
    | 17, hq =>
      show sx_Well P w0 S (sx_end S 17)
      exact sx_end_ok hq
    | 18, hq =>
      show sx_Well P w0 S (sx_end S 18)
      exact sx_end_ok hq
    | 19, hq =>
      show sx_Well P w0 S (sx_ol (sx_c19 P S nx a))
      exact sx_ol_ok (fun l h => sx_c19_ok hq h)
    | 20, hq =>
      show sx_Well P w0 S (sx_ol (sx_c20 P S nx a))
      exact sx_ol_ok (fun l h => sx_c20_ok hq h)
    | 21, hq =>
      show sx_Well P w0 S (sx_ol (sx_c21 P (sx_nS S) nx a))
      exact sx_ol_ok (fun l h => sx_nS_goes (sx_c21_ok (S := sx_nS S) hq h))
    | 22, hq =>
      show sx_Well P w0 S (sx_ol (sx_c22 P (sx_nS S) nx a))
      exact sx_ol_ok (fun l h => sx_nS_goes (sx_c22_ok (S := sx_nS S) hq h))
    | 23, hq =>
      show sx_Well P w0 S (sx_ol (sx_c23 P S nx))
      exact sx_ol_ok (fun l h => sx_c23_ok hq h)
    | 24, hq =>
      show sx_Well P w0 S none
      trivial
    | 25, hq =>
      show sx_Well P w0 S none
      trivial
    | 26, hq =>
      show sx_Well P w0 S none
      trivial
    | 27, hq =>
      show sx_Well P w0 S (sx_ol (sx_c27 P S nx))
      exact sx_ol_ok (fun l h => sx_c27_ok hq h)
    | 28, hq =>
      show sx_Well P w0 S (sx_ol (sx_c28 P S nx a))
      exact sx_ol_ok (fun l h => sx_c28_ok hct hJ hq h)
    | 29, hq =>
      show sx_Well P w0 S (sx_ol (sx_c29 S nx a))
      exact sx_ol_ok (fun l h => sx_c29_ok hq h)
    | 30, hq =>
      show sx_Well P w0 S (sx_ol (sx_c0 S nx v))
      exact sx_ol_ok (fun l h => sx_c30_ok hq h)
    | 31, hq =>
      show sx_Well P w0 S (sx_ol (sx_c31 P S nx v))
      exact sx_ol_ok (fun l h => sx_c31_ok hq h)
    | 32, hq =>
      show sx_Well P w0 S (sx_ol (sx_c32 S nx))
      exact sx_ol_ok (fun l h => sx_c32_ok hq h)
    | _ + 33, hq =>
      show sx_Well P w0 S none
      trivial
/-! loops -/
/-- slots made anew, symbols from n on; and their intervals -/
noncomputable def sx_hs : Nat → List (Nat × Bool × Int × Int) → List (Nat × sx_V)
  | _, [] => []
  | n, q :: r => (q.1, bif q.2.1 then .inl (.inr (sx_y n)) else .inl (.inl (sx_y n))) :: sx_hs (n + 1) r
noncomputable def sx_he : Nat → List (Nat × Bool × Int × Int) → sx_E
  | _, [] => []
  | n, q :: r => (n, q.2.2.1, q.2.2.2) :: sx_he (n + 1) r
/-- the value of a slot, an int or a long as asked -/
noncomputable def sx_vof (ls : List (Nat × sx_V)) (q : Nat × Bool × Int × Int) : Option sx_F := match sx_sl ls q.1, q.2.1 with
  | some (.inl (.inl e)), false => some e
  | some (.inl (.inr e)), true => some e
  | _, _ => none
noncomputable def sx_hin (E : sx_E) (C : List sx_F) (ls : List (Nat × sx_V)) (hv : List (Nat × Bool × Int × Int)) : Bool := hv.all fun q => match sx_vof ls q with
  | some e => sx_in E C e q.2.2.1 q.2.2.2
  | none => false
/-- what new symbols stand for -/
noncomputable def sx_hp (p : Nat → Int) (ls : List (Nat × sx_V)) : Nat → List (Nat × Bool × Int × Int) → Nat → Int
  | _, [], s => p s
  | n, q :: r, s => if s = n then (match sx_vof ls q with
    | some e => sx_ev p e
    | none => 0) else sx_hp p ls (n + 1) r s
theorem sx_hp_lt {p : Nat → Int} {ls : List (Nat × sx_V)} : ∀ {hv : List (Nat × Bool × Int × Int)} {n s : Nat}, s < n → sx_hp p ls n hv s = p s
  | [], _, _, _ => rfl
  | q :: r, n, s, h => by
    unfold sx_hp
    rw [if_neg (by omega)]
    exact sx_hp_lt (by omega)
theorem sx_hin_ok {p : Nat → Int} {E : sx_E} {C : List sx_F} (hE : sx_Sat p E) (hC : sx_Fok p C) {ls : List (Nat × sx_V)} {cl : pq_L} (hl : sx_lm p ls cl) : ∀ {hv : List (Nat × Bool × Int × Int)} {n : Nat} {p' : Nat → Int}, sx_hin E C ls hv = true → (∀ s, n ≤ s → s < n + hv.length → p' s = sx_hp p ls n hv s) → sx_Sat p' (sx_he n hv) ∧ sx_lm p' (sx_hs n hv) cl
  | [], n, p', _, _ => ⟨fun q hq => (by cases hq), fun q hq => (by cases hq)⟩
  | q :: r, n, p', h, hp => by
    unfold sx_hin at h
    rw [List.all_cons, Bool.and_eq_true] at h
    have hn : p' n = (match sx_vof ls q with
      | some e => sx_ev p e
      | none => 0) := by
      rw [hp n (Nat.le_refl _) (by rw [List.length_cons]; omega)]
      show (if n = n then _ else _) = _
      rw [if_pos rfl]
    obtain ⟨ih1, ih2⟩ := sx_hin_ok hE hC hl (hv := r) (n := n + 1) (p' := p') h.2 (fun s h1 h2 => by
      rw [hp s (by omega) (by rw [List.length_cons]; omega)]
      show (if s = n then _ else _) = _
      rw [if_neg (by omega)])
    have h1 := h.1
    cases hv : sx_vof ls q with
    | none => rw [hv] at h1; cases h1
    | some e =>
      rw [hv] at h1 hn
      have hin := sx_in_ok hE hC h1
      have hn : p' n = sx_ev p e := hn
      constructor
      · intro x hx
        cases List.mem_cons.mp hx with
        | inl e1 => rw [e1]; show q.2.2.1 ≤ p' n ∧ p' n ≤ q.2.2.2; rw [hn]; exact hin
        | inr e1 => exact ih1 x e1
      · intro x hx
        cases List.mem_cons.mp hx with
        | inl e1 =>
          rw [e1]
          unfold sx_vof at hv
          split at hv
          · rename_i e2 hs hb
            cases hv
            obtain ⟨y, k1, k2⟩ := hl _ (sx_sl_mem hs)
            refine ⟨y, k1, ?_⟩
            rw [hb]
            match y, k2 with
            | .int y, k2 =>
              have k2 : y.toInt = sx_ev p e := k2
              show y.toInt = sx_ev p' (sx_y n)
              rw [sx_y_ev, hn, k2]
          · rename_i e2 hs hb
            cases hv
            obtain ⟨y, k1, k2⟩ := hl _ (sx_sl_mem hs)
            refine ⟨y, k1, ?_⟩
            rw [hb]
            match y, k2 with
            | .long y, k2 =>
              have k2 : y.toInt = sx_ev p e := k2
              show y.toInt = sx_ev p' (sx_y n)
              rw [sx_y_ev, hn, k2]
          · cases hv
        | inr e1 => exact ih2 x e1
theorem sx_hs_lt : ∀ {hv : List (Nat × Bool × Int × Int)} {n : Nat}, ∀ q ∈ sx_hs n hv, sx_vlt (n + hv.length) q.2
  | [], _, q, h => by cases h
  | a :: r, n, q, h => by
    cases List.mem_cons.mp h with
    | inl e =>
      rw [e]
      have : n < n + (a :: r).length := by rw [List.length_cons]; omega
      show sx_vlt (n + (a :: r).length) (bif a.2.1 then .inl (.inr (sx_y n)) else .inl (.inl (sx_y n)))
      cases a.2.1 with
      | true => exact sx_y_lt this
      | false => exact sx_y_lt this
    | inr e =>
      have := sx_hs_lt (hv := r) (n := n + 1) q e
      rw [List.length_cons, show n + (r.length + 1) = n + 1 + r.length by omega]
      exact this
theorem sx_he_lt : ∀ {hv : List (Nat × Bool × Int × Int)} {n : Nat}, sx_Elt (n + hv.length) (sx_he n hv)
  | [], _, q, h => by cases h
  | a :: r, n, q, h => by
    cases List.mem_cons.mp h with
    | inl e => rw [e]; rw [List.length_cons]; show n < n + (r.length + 1); omega
    | inr e =>
      have := sx_he_lt (hv := r) (n := n + 1) q e
      rw [List.length_cons, show n + (r.length + 1) = n + 1 + r.length by omega]
      exact this
noncomputable def sx_has (hv : List (Nat × Bool × Int × Int)) (k : Nat) : Bool := hv.any fun q => Nat.beq q.1 k
noncomputable def sx_drp (dr : List (Nat × Option Nat)) (O : sx_O) : sx_O := O.filter fun q => dr.all fun d => !(Nat.beq d.1 q.1) || (match d.2 with
  | none => false
  | some k => !(sx_feq q.2.1 (sx_k k)))
noncomputable def sx_dra (a : sx_an) (O : sx_O) : sx_O := bif a.al then [] else sx_drp a.dr O
theorem sx_dra_mem {a : sx_an} {O : sx_O} {q : Nat × sx_F × sx_V} (h : q ∈ sx_dra a O) : q ∈ O := by
  unfold sx_dra at h
  cases ha : a.al with
  | true => rw [ha] at h; cases h
  | false => rw [ha] at h; exact (List.mem_filter.mp h).1
noncomputable def sx_kp (a : sx_an) (q : Nat × sx_V) : Bool := !(sx_has a.hv q.1) && !(a.fg.any fun k => Nat.beq k q.1)
/-- the state at a loop's head -/
noncomputable def sx_hd (S : sx_S) (a : sx_an) : sx_S := (S.n + a.hv.length, sx_he S.n a.hv ++ S.E, S.C, sx_dra a S.O, S.k, (S.fr.j, S.fr.M, S.fr.pc, sx_hs S.n a.hv ++ S.fr.ls.filter (sx_kp a), S.fr.st, S.fr.an), S.K)
theorem sx_hd_ok {T : List sx_ct} {A : sx_A} {w0 : pq_W} {p p' : Nat → Int} {S : sx_S} {Kc : List sx_cf} {ls : pq_L} {st : List Value} {w : pq_W} {a : sx_an} (m : sx_Mt T A w0 p S Kc ls st w) (h1 : ∀ s, s < S.n → p' s = p s) (h2 : sx_Sat p' (sx_he S.n a.hv)) (h3 : sx_lm p' (sx_hs S.n a.hv) ls) : sx_Mt T A w0 p' (sx_hd S a) Kc ls st w := by
  have m2 := sx_Mt_agree m h1
  have le : S.n ≤ S.n + a.hv.length := Nat.le_add_right _ _
  exact sx_mkMt
    (sat := fun q hq => by
      cases List.mem_append.mp hq with
      | inl e => exact h2 q e
      | inr e => exact m2.sat q e)
    (fok := m2.fok)
    (elt := fun q hq => by
      cases List.mem_append.mp hq with
      | inl e => exact sx_he_lt q e
      | inr e => exact Nat.lt_of_lt_of_le (m.elt q e) le)
    (clt := sx_Clt_mono le m.clt)
    (olt := fun q hq => sx_Olt_mono le m.olt q (sx_dra_mem hq))
    (flt := ⟨fun q hq => by
      cases List.mem_append.mp hq with
      | inl e => exact sx_hs_lt q e
      | inr e => exact sx_vlt_mono le (m.flt.1 q (List.mem_filter.mp e).1), fun v hv => sx_vlt_mono le (m.flt.2 v hv)⟩)
    (klt := fun f hf => sx_flt_mono le (m.klt f hf))
    (ook := fun q hq => m2.ook q (sx_dra_mem hq))
    (typ := m.typ)
    (frm := m.frm)
    (lsm := fun q hq => by
      cases List.mem_append.mp hq with
      | inl e => exact h3 q e
      | inr e => exact m2.lsm q (List.mem_filter.mp e).1)
    (stm := m2.stm)
    (ksm := m2.ksm)
    (tbm := m.tbm)
/-- a head that is being gone round: the state before it, the loop's row, the symbol that rises or falls, its bounds -/
abbrev sx_H : Type := sx_S × sx_an × Nat × Int × Int
noncomputable def sx_H.S (h : sx_H) : sx_S := h.1
noncomputable def sx_H.a (h : sx_H) : sx_an := h.2.1
noncomputable def sx_H.sm (h : sx_H) : Nat := h.2.2.1
noncomputable def sx_H.lo (h : sx_H) : Int := h.2.2.2.1
noncomputable def sx_H.hi (h : sx_H) : Int := h.2.2.2.2
noncomputable def sx_sms : Nat → Nat → List (Nat × Bool × Int × Int) → Option (Nat × Int × Int)
  | _, _, [] => none
  | k, n, q :: r => bif Nat.beq q.1 k then some (n, q.2.2) else sx_sms k (n + 1) r
theorem sx_sms_ok {k : Nat} : ∀ {hv : List (Nat × Bool × Int × Int)} {n : Nat} {q : Nat × Int × Int}, sx_sms k n hv = some q → q ∈ sx_he n hv ∧ n ≤ q.1 ∧ q.1 < n + hv.length
  | [], _, _, h => by cases h
  | a :: r, n, q, h => by
    unfold sx_sms at h
    cases hb : Nat.beq a.1 k with
    | true =>
      rw [hb] at h
      cases h
      exact ⟨List.mem_cons_self, Nat.le_refl _, by rw [List.length_cons]; show n < _; omega⟩
    | false =>
      rw [hb] at h
      obtain ⟨h1, h2, h3⟩ := sx_sms_ok h
      exact ⟨List.mem_cons_of_mem _ h1, by omega, by rw [List.length_cons]; omega⟩
noncomputable def sx_sleq : List (Nat × sx_V) → List (Nat × sx_V) → Bool
  | [], [] => true
  | a :: r, b :: s => Nat.beq a.1 b.1 && sx_veq a.2 b.2 && sx_sleq r s
  | _, _ => false
theorem sx_sleq_ok : ∀ {a b : List (Nat × sx_V)}, sx_sleq a b = true → a = b
  | [], [], _ => rfl
  | a :: r, b :: s, h => by
    unfold sx_sleq at h
    rw [Bool.and_eq_true, Bool.and_eq_true] at h
    rw [sx_sleq_ok h.2, show a = b from Prod.ext (Nat.eq_of_beq_eq_true h.1.1) (sx_veq_ok h.1.2)]
  | [], _ :: _, h => by cases h
  | _ :: _, [], h => by cases h
noncomputable def sx_steq : List sx_V → List sx_V → Bool
  | [], [] => true
  | a :: r, b :: s => sx_veq a b && sx_steq r s
  | _, _ => false
theorem sx_steq_ok : ∀ {a b : List sx_V}, sx_steq a b = true → a = b
  | [], [], _ => rfl
  | a :: r, b :: s, h => by
    unfold sx_steq at h
    rw [Bool.and_eq_true] at h
    rw [sx_steq_ok h.2, sx_veq_ok h.1]
  | [], _ :: _, h => by cases h
  | _ :: _, [], h => by cases h
noncomputable def sx_Keq : List sx_fr → List sx_fr → Bool
  | [], [] => true
  | a :: r, b :: s => Nat.beq a.j b.j && Nat.beq a.pc b.pc && sx_sleq a.ls b.ls && sx_steq a.st b.st && sx_Keq r s
  | _, _ => false
theorem sx_Keq_ok {p : Nat → Int} : ∀ {a b : List sx_fr} {K : List sx_cf}, sx_Keq a b = true → (∀ f ∈ a, pq_tab[f.j]? = some f.M) → (∀ f ∈ b, pq_tab[f.j]? = some f.M) → sx_Km p b K → sx_Km p a K
  | [], [], _, _, _, _, h => h
  | a :: r, b :: s, [], _, _, _, h => h.elim
  | a :: r, b :: s, c :: K, h, h1, h2, hm => by
    unfold sx_Keq at h
    simp only [Bool.and_eq_true] at h
    obtain ⟨⟨⟨⟨g1, g2⟩, g3⟩, g4⟩, g5⟩ := h
    have eM : a.M = b.M := by
      have k1 := h1 a List.mem_cons_self
      have k2 := h2 b List.mem_cons_self
      rw [Nat.eq_of_beq_eq_true g1, k2] at k1
      exact (Option.some.inj k1).symm
    obtain ⟨⟨m1, m2, m3, m4⟩, m5⟩ := hm
    refine ⟨⟨?_, ?_, ?_, ?_⟩, sx_Keq_ok g5 (fun f hf => h1 f (List.mem_cons_of_mem _ hf)) (fun f hf => h2 f (List.mem_cons_of_mem _ hf)) m5⟩
    · rw [m1, eM]
    · rw [m2, Nat.eq_of_beq_eq_true g2]
    · rw [sx_sleq_ok g3]; exact m3
    · rw [sx_steq_ok g4]; exact m4
  | [], _ :: _, _, h, _, _, _ => by cases h
  | _ :: _, [], _, h, _, _, _ => by cases h
/-- has the walk come round -/
noncomputable def sx_mat0 (h : sx_H) (B : sx_S) : Bool :=
  Nat.beq h.S.fr.pc B.fr.pc && Nat.beq h.S.fr.j B.fr.j && Nat.beq h.S.k B.k && sx_hin B.E B.C B.fr.ls h.a.hv &&
    (match sx_vof B.fr.ls (h.a.ms, false, 0, 0) with
    | some e => bif h.a.up then sx_lo B.E B.C (sx_sub e (sx_y h.sm)) 1 else sx_hi B.E B.C (sx_sub e (sx_y h.sm)) (-1)
    | none => false) &&
    ((h.S.fr.ls.filter (sx_kp h.a)).all fun q => match sx_sl B.fr.ls q.1 with
    | some v => sx_veq q.2 v
    | none => false) && sx_steq h.S.fr.st B.fr.st &&
    ((sx_dra h.a h.S.O).all fun q => match sx_of B.O q.1 q.2.1 with
    | some v => sx_veq q.2.2 v
    | none => false) && sx_Keq h.S.K B.K
noncomputable def sx_mat (h : sx_H) (B : sx_S) : Bool := Bool.rec (motive := fun _ => Bool) false (sx_mat0 h B) (Nat.beq h.S.fr.pc B.fr.pc)
theorem sx_mat_o (h : sx_H) (B : sx_S) : sx_mat h B = sx_mat0 h B := by
  unfold sx_mat sx_mat0
  cases Nat.beq h.S.fr.pc B.fr.pc with
  | true => rfl
  | false => simp only [Bool.false_and]
/-- what is known of a head that is being gone round -/
noncomputable def sx_HC (P : sx_P) (w0 : pq_W) (Post : pq_R → Prop) (h : sx_H) (p : Nat → Int) : Prop :=
  sx_sms h.a.ms h.S.n h.a.hv = some (h.sm, h.lo, h.hi) ∧ sx_Sat p h.S.E ∧ sx_Fok p h.S.C ∧ sx_Elt h.S.n h.S.E ∧ sx_Clt h.S.n h.S.C ∧ sx_Olt h.S.n h.S.O ∧ sx_flt h.S.n h.S.fr ∧ (∀ f ∈ h.S.K, sx_flt h.S.n f) ∧ (pq_tab[h.S.fr.j]? = some h.S.fr.M ∧ ∀ f ∈ h.S.K, pq_tab[f.j]? = some f.M) ∧
  ∀ p', (∀ s, s < h.S.n → p' s = p s) → (bif h.a.up then p h.sm < p' h.sm else p' h.sm < p h.sm) → ∀ Kc ls st w, sx_Mt P.T P.A w0 p' (sx_hd h.S h.a) Kc ls st w → sx_Ok Post h.S.k Kc h.S.fr.M h.S.fr.pc ls st w
theorem sx_HC_agree {P : sx_P} {w0 : pq_W} {Post : pq_R → Prop} {h : sx_H} {p p2 : Nat → Int} {n : Nat} (hc : sx_HC P w0 Post h p) (ha : ∀ s, s < n → p2 s = p s) (h1 : h.S.n ≤ n) (h2 : h.sm < n) : sx_HC P w0 Post h p2 := by
  obtain ⟨c1, c2, c3, c4, c5, c6, c7, c8, c9, c10⟩ := hc
  have ha2 : ∀ s, s < h.S.n → p2 s = p s := fun s hs => ha s (by omega)
  refine ⟨c1, sx_Sat_agree ha2 c4 c2, sx_Fok_agree ha2 c5 c3, c4, c5, c6, c7, c8, c9, fun p' h3 h4 => c10 p' (fun s hs => ?_) ?_⟩
  · rw [h3 s hs, ha2 s hs]
  · rw [ha h.sm h2] at h4
    exact h4
theorem sx_mat_ok {P : sx_P} {w0 : pq_W} {Post : pq_R → Prop} {h : sx_H} {p : Nat → Int} {B : sx_S} {Kc : List sx_cf} {ls : pq_L} {st : List Value} {w : pq_W} (hc : sx_HC P w0 Post h p) (hm : sx_mat h B = true) (m : sx_Mt P.T P.A w0 p B Kc ls st w) : sx_Ok Post B.k Kc B.fr.M B.fr.pc ls st w := by
  obtain ⟨c1, c2, c3, c4, c5, c6, c7, c8, c9, c10⟩ := hc
  rw [sx_mat_o] at hm
  unfold sx_mat0 at hm
  simp only [Bool.and_eq_true] at hm
  obtain ⟨⟨⟨⟨⟨⟨⟨⟨b1, b2⟩, b3⟩, b4⟩, b5⟩, b6⟩, b7⟩, b8⟩, b9⟩ := hm
  have e1 := Nat.eq_of_beq_eq_true b1
  have e2 := Nat.eq_of_beq_eq_true b2
  have e3 := Nat.eq_of_beq_eq_true b3
  have eM : B.fr.M = h.S.fr.M := by
    have k1 := m.tbm.1
    rw [← e2, c9.1] at k1
    exact (Option.some.inj k1).symm
  obtain ⟨s1, s2, s3⟩ := sx_sms_ok c1
  -- the new symbols' values
  have hp1 : ∀ s, s < h.S.n → sx_hp p B.fr.ls h.S.n h.a.hv s = p s := fun s hs => sx_hp_lt hs
  obtain ⟨q1, q2⟩ := sx_hin_ok m.sat m.fok m.lsm (hv := h.a.hv) (n := h.S.n) (p' := sx_hp p B.fr.ls h.S.n h.a.hv) b4 (fun s _ _ => rfl)
  rw [eM, ← e1, ← e3]
  refine c10 (sx_hp p B.fr.ls h.S.n h.a.hv) hp1 ?_ Kc ls st w ?_
  · -- the measure
    have key : ∀ (hv : List (Nat × Bool × Int × Int)) (n : Nat) (q : Nat × Int × Int) (e : sx_F), sx_sms h.a.ms n hv = some q → sx_vof B.fr.ls (h.a.ms, false, 0, 0) = some e → sx_hin B.E B.C B.fr.ls hv = true → sx_hp p B.fr.ls n hv q.1 = sx_ev p e := by
      intro hv
      induction hv with
      | nil => intro n q e h1; cases h1
      | cons a r ih =>
        intro n q e h1 h2 h3
        unfold sx_sms at h1
        unfold sx_hin at h3
        rw [List.all_cons, Bool.and_eq_true] at h3
        cases hb : Nat.beq a.1 h.a.ms with
        | true =>
          rw [hb] at h1
          cases h1
          show (if n = n then _ else _) = _
          rw [if_pos rfl]
          have ea := Nat.eq_of_beq_eq_true hb
          have h4 := h3.1
          cases hv : sx_vof B.fr.ls a with
          | none => rw [hv] at h4; cases h4
          | some e2 =>
            show sx_ev p e2 = sx_ev p e
            unfold sx_vof at hv h2
            rw [ea] at hv
            have h2 : (match sx_sl B.fr.ls h.a.ms, false with
              | some (.inl (.inl e)), false => some e
              | some (.inl (.inr e)), true => some e
              | _, _ => none) = some e := h2
            cases hs : sx_sl B.fr.ls h.a.ms with
            | none => rw [hs] at h2; cases h2
            | some z =>
              rw [hs] at h2 hv
              rcases z with (x | x) | (x | x)
              ·
                cases h2
                cases hb2 : a.2.1 with
                | true => rw [hb2] at hv; cases hv
                | false => rw [hb2] at hv; cases hv; rfl
              · cases h2
              · cases h2
              · cases h2
        | false =>
          rw [hb] at h1
          have hne : ¬ q.1 = n := by
            obtain ⟨_, g2, _⟩ := sx_sms_ok h1
            omega
          show (if q.1 = n then _ else _) = _
          rw [if_neg hne]
          exact ih (n + 1) q e h1 h2 h3.2
    cases hv : sx_vof B.fr.ls (h.a.ms, false, 0, 0) with
    | none => rw [hv] at b5; cases b5
    | some e =>
      rw [hv] at b5
      have k := key h.a.hv h.S.n _ e c1 hv b4
      have k : sx_hp p B.fr.ls h.S.n h.a.hv h.sm = sx_ev p e := k
      rw [k]
      have b5 : (bif h.a.up then sx_lo B.E B.C (sx_sub e (sx_y h.sm)) 1 else sx_hi B.E B.C (sx_sub e (sx_y h.sm)) (-1)) = true := b5
      cases hu : h.a.up with
      | true =>
        rw [hu] at b5
        have := sx_lo_ok m.sat m.fok b5
        rw [sx_sub_ev, sx_y_ev] at this
        show p h.sm < sx_ev p e
        omega
      | false =>
        rw [hu] at b5
        have := sx_hi_ok m.sat m.fok b5
        rw [sx_sub_ev, sx_y_ev] at this
        show sx_ev p e < p h.sm
        omega
  · -- the state
    have hS : sx_Mt P.T P.A w0 p (h.S.n, h.S.E, h.S.C, sx_dra h.a h.S.O, h.S.k, (h.S.fr.j, h.S.fr.M, h.S.fr.pc, h.S.fr.ls.filter (sx_kp h.a), h.S.fr.st, h.S.fr.an), h.S.K) Kc ls st w := sx_mkMt
      (sat := c2)
      (fok := c3)
      (elt := c4)
      (clt := c5)
      (olt := fun q hq => c6 q (sx_dra_mem hq))
      (flt := ⟨fun q hq => c7.1 q (List.mem_filter.mp hq).1, c7.2⟩)
      (klt := c8)
      (ook := fun q hq => by
        rw [List.all_eq_true] at b8
        have g := b8 q hq
        cases ho : sx_of B.O q.1 q.2.1 with
        | none => rw [ho] at g; cases g
        | some v =>
          rw [ho] at g
          have ev := sx_veq_ok g
          have := m.ook _ (sx_of_mem ho)
          rw [← ev] at this
          exact this)
      (typ := m.typ)
      (frm := m.frm)
      (lsm := fun q hq => by
        rw [List.all_eq_true] at b6
        have g := b6 q hq
        cases ho : sx_sl B.fr.ls q.1 with
        | none => rw [ho] at g; cases g
        | some v =>
          rw [ho] at g
          have ev := sx_veq_ok g
          obtain ⟨x, k1, k2⟩ := m.lsm _ (sx_sl_mem ho)
          exact ⟨x, k1, by rw [ev]; exact k2⟩)
      (stm := by
        show sx_sm p h.S.fr.st st
        rw [sx_steq_ok b7]
        exact m.stm)
      (ksm := sx_Keq_ok b9 c9.2 m.tbm.2 m.ksm)
      (tbm := c9)
    have m2 := sx_Mt_agree hS hp1
    have le : h.S.n ≤ h.S.n + h.a.hv.length := Nat.le_add_right _ _
    exact sx_mkMt
      (sat := fun q hq => by
        cases List.mem_append.mp hq with
        | inl e => exact q1 q e
        | inr e => exact m2.sat q e)
      (fok := m2.fok)
      (elt := fun q hq => by
        cases List.mem_append.mp hq with
        | inl e => exact sx_he_lt q e
        | inr e => exact Nat.lt_of_lt_of_le (c4 q e) le)
      (clt := sx_Clt_mono le c5)
      (olt := fun q hq => sx_Olt_mono le c6 q (sx_dra_mem hq))
      (flt := ⟨fun q hq => by
        cases List.mem_append.mp hq with
        | inl e => exact sx_hs_lt q e
        | inr e => exact sx_vlt_mono le (c7.1 q (List.mem_filter.mp e).1), fun v hv => sx_vlt_mono le (c7.2 v hv)⟩)
      (klt := fun f hf => sx_flt_mono le (c8 f hf))
      (ook := m2.ook)
      (typ := m.typ)
      (frm := m.frm)
      (lsm := fun q hq => by
        cases List.mem_append.mp hq with
        | inl e => exact q2 q e
        | inr e => exact m2.lsm q e)
      (stm := m2.stm)
      (ksm := m2.ksm)
      (tbm := c9)
/-! the check, and that it is right -/
noncomputable def sx_ant (l : List (Nat × sx_an)) (pc : Nat) : Option sx_an := List.rec (motive := fun _ => Option sx_an) none (fun q _ ih => Bool.rec (motive := fun _ => Option sx_an) ih (some q.2) (Nat.beq q.1 pc)) l
noncomputable def sx_ent (S : sx_S) (a : sx_an) : Option sx_H := match sx_sms a.ms S.n a.hv with
  | some q => bif sx_hin S.E S.C S.fr.ls a.hv then some (S, a, q.1, q.2.1, q.2.2) else none
  | none => none
noncomputable def sx_go (P : sx_P) (po : sx_S → Option sx_V → Bool) (ih : List sx_H → sx_S → Bool) (H : List sx_H) (S : sx_S) : Bool := Option.rec (motive := fun _ => Bool) false (fun q => Sum.rec (motive := fun _ => Bool) (fun l => l.all (ih H)) (fun rv => po S rv) q) (sx_next P S)
noncomputable def sx_chk (P : sx_P) (po : sx_S → Option sx_V → Bool) (f : Nat) : List sx_H → sx_S → Bool :=
  Nat.rec (motive := fun _ => List sx_H → sx_S → Bool) (fun _ _ => false) (fun _ ih H S => Bool.rec (motive := fun _ => Bool) (Option.rec (motive := fun _ => Bool) (sx_go P po ih H S) (fun a => Option.rec (motive := fun _ => Bool) false (fun h => sx_go P po ih (h :: H) (sx_hd S a)) (sx_ent S a)) (sx_ant S.fr.an S.fr.pc)) true (sf_any (fun h => sx_mat h S) H)) f
theorem sx_chk_s (P : sx_P) (po : sx_S → Option sx_V → Bool) (f : Nat) (H : List sx_H) (S : sx_S) : sx_chk P po (f + 1) H S = bif H.any (fun h => sx_mat h S) then true else match sx_ant S.fr.an S.fr.pc with
    | some a => match sx_ent S a with
      | some h => sx_go P po (sx_chk P po f) (h :: H) (sx_hd S a)
      | none => false
    | none => sx_go P po (sx_chk P po f) H S := by
  show Bool.rec (motive := fun _ => Bool) (Option.rec (motive := fun _ => Bool) (sx_go P po (sx_chk P po f) H S) (fun a => Option.rec (motive := fun _ => Bool) false (fun h => sx_go P po (sx_chk P po f) (h :: H) (sx_hd S a)) (sx_ent S a)) (sx_ant S.fr.an S.fr.pc)) true (sf_any (fun h => sx_mat h S) H) = _
  rw [sf_b, sf_any_eq]
  cases sx_ant S.fr.an S.fr.pc with
  | none => rfl
  | some a =>
    cases hx : sx_ent S a with
    | none => simp only [hx]
    | some h => simp only [hx]
section SXQ
variable {P : sx_P} {w0 : pq_W} {J : pq_W → Prop} {po : sx_S → Option sx_V → Bool} {Post : pq_R → Prop} {N0 : Nat} {p0 : Nat → Int}
/-- what is known at a state of the walk -/
noncomputable def sx_Z (P : sx_P) (w0 : pq_W) (Post : pq_R → Prop) (N0 : Nat) (p0 : Nat → Int) (H : List sx_H) (S : sx_S) (p : Nat → Int) : Prop :=
  (∀ s, s < N0 → p s = p0 s) ∧ N0 ≤ S.n ∧ ∀ h ∈ H, sx_HC P w0 Post h p ∧ h.S.n ≤ S.n ∧ h.sm < S.n ∧ N0 ≤ h.S.n
noncomputable def sx_Fine (P : sx_P) (w0 : pq_W) (Post : pq_R → Prop) (N0 : Nat) (p0 : Nat → Int) (H : List sx_H) (S : sx_S) : Prop := ∀ p, sx_Z P w0 Post N0 p0 H S p → ∀ Kc ls st w, sx_Mt P.T P.A w0 p S Kc ls st w → sx_Ok Post S.k Kc S.fr.M S.fr.pc ls st w
theorem sx_Z_agree {H : List sx_H} {S S' : sx_S} {p p' : Nat → Int} (z : sx_Z P w0 Post N0 p0 H S p) (h1 : ∀ s, s < S.n → p' s = p s) (h2 : S.n ≤ S'.n) : sx_Z P w0 Post N0 p0 H S' p' := by
  obtain ⟨z1, z2, z3⟩ := z
  refine ⟨fun s hs => ?_, by omega, fun h hh => ?_⟩
  · rw [h1 s (by omega), z1 s hs]
  · obtain ⟨k1, k2, k3, k4⟩ := z3 h hh
    exact ⟨sx_HC_agree k1 h1 k2 k3, by omega, by omega, k4⟩
theorem sx_go_ok (hct : ∀ q ∈ P.CT, sx_Kok P.T J q.1 q.2) (hJ : ∀ w, sx_Ty P.T w → sx_Fr P.A w0 w → J w) (hpo : ∀ S p ls st w rv r, po S rv = true → (∀ s, s < N0 → p s = p0 s) → N0 ≤ S.n → sx_Mt P.T P.A w0 p S [] ls st w → sx_rvm p rv r → Post (r, w)) {ih : List sx_H → sx_S → Bool} (hih : ∀ H S, ih H S = true → sx_Fine P w0 Post N0 p0 H S) {H : List sx_H} {S : sx_S} (h : sx_go P po ih H S = true) : sx_Fine P w0 Post N0 p0 H S := by
  intro p z Kc ls st w m
  have hw := sx_next_ok (S := S) hct hJ
  unfold sx_go at h
  cases hn : sx_next P S with
  | none => rw [hn] at h; cases h
  | some R =>
   rcases R with l | rv
   · rw [hn] at h hw
     obtain ⟨S', hS, Kc', ls', st', w', ⟨p', g1, g2, g3⟩, g4⟩ := hw p Kc ls st w m
     have h : l.all (ih H) = true := h
     rw [List.all_eq_true] at h
     exact g4 Post (hih H S' (h S' hS) p' (sx_Z_agree z g1 g2) Kc' ls' st' w' g3)
   · rw [hn] at h hw
     obtain ⟨e, r, g1, g2⟩ := hw p Kc ls st w m
     subst e
     exact g2 Post (hpo S p ls st w rv r h z.1 z.2.1 m g1)
theorem sx_chk_ok (hct : ∀ q ∈ P.CT, sx_Kok P.T J q.1 q.2) (hJ : ∀ w, sx_Ty P.T w → sx_Fr P.A w0 w → J w) (hpo : ∀ S p ls st w rv r, po S rv = true → (∀ s, s < N0 → p s = p0 s) → N0 ≤ S.n → sx_Mt P.T P.A w0 p S [] ls st w → sx_rvm p rv r → Post (r, w)) : ∀ (f : Nat) (H : List sx_H) (S : sx_S), sx_chk P po f H S = true → sx_Fine P w0 Post N0 p0 H S := by
  intro f
  induction f with
  | zero => intro H S h; cases h
  | succ f ih =>
    intro H S h
    rw [sx_chk_s] at h
    cases hm : H.any (fun h => sx_mat h S) with
    | true =>
      intro p z Kc ls st w m
      rw [List.any_eq_true] at hm
      obtain ⟨q, hq, hm⟩ := hm
      exact sx_mat_ok (z.2.2 q hq).1 hm m
    | false =>
      rw [hm] at h
      have h : (match sx_ant S.fr.an S.fr.pc with
        | some a => match sx_ent S a with
          | some h => sx_go P po (sx_chk P po f) (h :: H) (sx_hd S a)
          | none => false
        | none => sx_go P po (sx_chk P po f) H S) = true := h
      cases ha : sx_ant S.fr.an S.fr.pc with
      | none =>
        rw [ha] at h
        exact sx_go_ok hct hJ hpo ih h
      | some a =>
        rw [ha] at h
        have h : (match sx_ent S a with
          | some h => sx_go P po (sx_chk P po f) (h :: H) (sx_hd S a)
          | none => false) = true := h
        cases he : sx_ent S a with
        | none => rw [he] at h; cases h
        | some hh =>
          rw [he] at h
          have h : sx_go P po (sx_chk P po f) (hh :: H) (sx_hd S a) = true := h
          have hfine := sx_go_ok hct hJ hpo ih h
          unfold sx_ent at he
          cases hs : sx_sms a.ms S.n a.hv with
          | none => rw [hs] at he; cases he
          | some q =>
            rw [hs] at he
            obtain ⟨hb, he⟩ := sx_bif he
            cases he
            obtain ⟨s1, s2, s3⟩ := sx_sms_ok hs
            intro p z Kc ls st w m
            -- going round, by how far it still is
            have round : ∀ (d : Nat) (p' : Nat → Int), (∀ s, s < S.n → p' s = p s) → (bif a.up then (q.2.2 - p' q.1).toNat else (p' q.1 - q.2.1).toNat) ≤ d → ∀ Kc ls st w, sx_Mt P.T P.A w0 p' (sx_hd S a) Kc ls st w → sx_Ok Post S.k Kc S.fr.M S.fr.pc ls st w := by
              intro d
              induction d with
              | zero =>
                intro p' h1 h2 Kc ls st w m2
                refine hfine p' ⟨fun s hs2 => by rw [h1 s (by have := z.2.1; omega), z.1 s hs2], by have := z.2.1; show N0 ≤ S.n + a.hv.length; omega, fun g hg => ?_⟩ Kc ls st w m2
                cases List.mem_cons.mp hg with
                | inl e =>
                  subst e
                  refine ⟨⟨hs, sx_Sat_agree h1 m.elt m.sat, sx_Fok_agree h1 m.clt m.fok, m.elt, m.clt, m.olt, m.flt, m.klt, m.tbm, fun p2 g1 g2 Kc2 ls2 st2 w2 m3 => ?_⟩, Nat.le_add_right _ _, s3, z.2.1⟩
                  exfalso
                  have i1 := m2.sat q (List.mem_append_left _ s1)
                  have i2 := m3.sat q (List.mem_append_left _ s1)
                  cases hu : a.up with
                  | true =>
                    rw [hu] at h2
                    have g2 : (bif a.up then p' q.1 < p2 q.1 else p2 q.1 < p' q.1) := g2
                    rw [hu] at g2
                    have h2 : (q.2.2 - p' q.1).toNat ≤ 0 := h2
                    have g2 : p' q.1 < p2 q.1 := g2
                    omega
                  | false =>
                    rw [hu] at h2
                    have g2 : (bif a.up then p' q.1 < p2 q.1 else p2 q.1 < p' q.1) := g2
                    rw [hu] at g2
                    have h2 : (p' q.1 - q.2.1).toNat ≤ 0 := h2
                    have g2 : p2 q.1 < p' q.1 := g2
                    omega
                | inr e =>
                  obtain ⟨k1, k2, k3, k4⟩ := z.2.2 g e
                  exact ⟨sx_HC_agree k1 h1 k2 k3, by show g.S.n ≤ S.n + _; omega, by show g.sm < S.n + _; omega, k4⟩
              | succ d ihd =>
                intro p' h1 h2 Kc ls st w m2
                refine hfine p' ⟨fun s hs2 => by rw [h1 s (by have := z.2.1; omega), z.1 s hs2], by have := z.2.1; show N0 ≤ S.n + a.hv.length; omega, fun g hg => ?_⟩ Kc ls st w m2
                cases List.mem_cons.mp hg with
                | inl e =>
                  subst e
                  refine ⟨⟨hs, sx_Sat_agree h1 m.elt m.sat, sx_Fok_agree h1 m.clt m.fok, m.elt, m.clt, m.olt, m.flt, m.klt, m.tbm, fun p2 g1 g2 Kc2 ls2 st2 w2 m3 => ?_⟩, Nat.le_add_right _ _, s3, z.2.1⟩
                  have g1 : ∀ s, s < S.n → p2 s = p' s := g1
                  refine ihd p2 (fun s hs2 => by rw [g1 s hs2, h1 s hs2]) ?_ Kc2 ls2 st2 w2 m3
                  have i1 := m2.sat q (List.mem_append_left _ s1)
                  have i2 := m3.sat q (List.mem_append_left _ s1)
                  cases hu : a.up with
                  | true =>
                    rw [hu] at h2
                    have g2 : (bif a.up then p' q.1 < p2 q.1 else p2 q.1 < p' q.1) := g2
                    rw [hu] at g2
                    have h2 : (q.2.2 - p' q.1).toNat ≤ d + 1 := h2
                    have g2 : p' q.1 < p2 q.1 := g2
                    show (q.2.2 - p2 q.1).toNat ≤ d
                    omega
                  | false =>
                    rw [hu] at h2
                    have g2 : (bif a.up then p' q.1 < p2 q.1 else p2 q.1 < p' q.1) := g2
                    rw [hu] at g2
                    have h2 : (p' q.1 - q.2.1).toNat ≤ d + 1 := h2
                    have g2 : p2 q.1 < p' q.1 := g2
                    show (p2 q.1 - q.2.1).toNat ≤ d
                    omega
                | inr e =>
                  obtain ⟨k1, k2, k3, k4⟩ := z.2.2 g e
                  exact ⟨sx_HC_agree k1 h1 k2 k3, by show g.S.n ≤ S.n + _; omega, by show g.sm < S.n + _; omega, k4⟩
            obtain ⟨q1, q2⟩ := sx_hin_ok m.sat m.fok m.lsm (hv := a.hv) (n := S.n) (p' := sx_hp p S.fr.ls S.n a.hv) hb (fun s _ _ => rfl)
            have h0 : ∀ s, s < S.n → sx_hp p S.fr.ls S.n a.hv s = p s := fun s hs2 => sx_hp_lt hs2
            exact round _ _ h0 (Nat.le_refl _) Kc ls st w (sx_hd_ok m h0 q1 q2)
end SXQ
/-! a method told by the check -/
noncomputable def sx_avs : Nat → List sx_ft → List sx_V
  | _, [] => []
  | n, .inl (_, _) :: r => .inl (.inl (sx_y n)) :: sx_avs (n + 1) r
  | n, .inr (.inl ()) :: r => .inl (.inr (sx_y n)) :: sx_avs (n + 1) r
  | n, .inr (.inr (.inl k)) :: r => .inr (.inr k) :: sx_avs (n + 1) r
  | n, .inr (.inr (.inr ())) :: r => .inr (.inr 0) :: sx_avs (n + 1) r
noncomputable def sx_aes : Nat → List sx_ft → sx_E
  | _, [] => []
  | n, .inl (lo, hi) :: r => (n, lo, hi) :: sx_aes (n + 1) r
  | n, .inr (.inl ()) :: r => (n, -sx_b63, sx_b63 - 1) :: sx_aes (n + 1) r
  | n, _ :: r => (n, 0, 0) :: sx_aes (n + 1) r
noncomputable def sx_noany : List sx_ft → Bool
  | [] => true
  | .inr (.inr (.inr ())) :: _ => false
  | _ :: r => sx_noany r
theorem sx_avs_ok : ∀ {as : List sx_ft} {xs : List Value} {n : Nat} {p : Nat → Int}, sx_noany as = true → sx_argm as xs → (∀ s, n ≤ s → s < n + as.length → p s = sx_pv xs n s) → sx_sm p (sx_avs n as) xs ∧ sx_Sat p (sx_aes n as)
  | [], [], _, _, _, _, _ => ⟨trivial, fun q h => by cases h⟩
  | a :: r, x :: xs, n, p, h, hm, hp => by
    have hn : p n = sx_v2i x := by
      rw [hp n (Nat.le_refl _) (by rw [List.length_cons]; omega)]
      show (if n = n then _ else _) = _
      rw [if_pos rfl]
    have h2 : sx_noany r = true := by
      rcases a with ⟨lo, hi⟩ | _ | k | _ <;> first | exact h | cases h
    obtain ⟨i1, i2⟩ := sx_avs_ok (as := r) (xs := xs) (n := n + 1) (p := p) h2 hm.2 (fun s g1 g2 => by
      rw [hp s (by omega) (by rw [List.length_cons]; omega)]
      show (if s = n then _ else _) = _
      rw [if_neg (by omega)])
    rcases a with ⟨lo, hi⟩ | _ | k | _
    ·
      match x, hm with
      | .int y, hm =>
        have hn : p n = y.toInt := hn
        refine ⟨⟨?_, i1⟩, fun q hq => ?_⟩
        · show y.toInt = sx_ev p (sx_y n)
          rw [sx_y_ev, hn]
        · cases List.mem_cons.mp hq with
          | inl e => rw [e]; show lo ≤ p n ∧ p n ≤ hi; rw [hn]; exact hm.1
          | inr e => exact i2 q e
    ·
      match x, hm with
      | .long y, hm =>
        have hn : p n = y.toInt := hn
        refine ⟨⟨?_, i1⟩, fun q hq => ?_⟩
        · show y.toInt = sx_ev p (sx_y n)
          rw [sx_y_ev, hn]
        · cases List.mem_cons.mp hq with
          | inl e => rw [e]; show -sx_b63 ≤ p n ∧ p n ≤ sx_b63 - 1; rw [hn]; exact sx_i64 y
          | inr e => exact i2 q e
    ·
      match x, hm with
      | .ref y, hm =>
        have hn : p n = 0 := hn
        refine ⟨⟨hm.1, i1⟩, fun q hq => ?_⟩
        cases List.mem_cons.mp hq with
        | inl e => rw [e]; show 0 ≤ p n ∧ p n ≤ 0; omega
        | inr e => exact i2 q e
    · cases h
  | [], _ :: _, _, _, _, hm, _ => hm.elim
  | _ :: _, [], _, _, _, hm, _ => hm.elim
theorem sx_avs_lt : ∀ {as : List sx_ft} {n : Nat}, (∀ v ∈ sx_avs n as, sx_vlt (n + as.length) v) ∧ sx_Elt (n + as.length) (sx_aes n as)
  | [], n => ⟨fun v hv => (by cases hv), fun q hq => (by cases hq)⟩
  | a :: r, n => by
    obtain ⟨h1, h2⟩ := sx_avs_lt (as := r) (n := n + 1)
    rw [List.length_cons, show n + (r.length + 1) = n + 1 + r.length by omega]
    have hy : sx_lt (n + 1 + r.length) (sx_y n) := sx_y_lt (by omega)
    rcases a with ⟨lo, hi⟩ | _ | k | _
    ·
      refine ⟨sx_memc hy h1, fun q hq => ?_⟩
      cases List.mem_cons.mp hq with
      | inl e => rw [e]; show n < _; omega
      | inr e => exact h2 q e
    ·
      refine ⟨sx_memc hy h1, fun q hq => ?_⟩
      cases List.mem_cons.mp hq with
      | inl e => rw [e]; show n < _; omega
      | inr e => exact h2 q e
    ·
      refine ⟨sx_memc trivial h1, fun q hq => ?_⟩
      cases List.mem_cons.mp hq with
      | inl e => rw [e]; show n < _; omega
      | inr e => exact h2 q e
    ·
      refine ⟨sx_memc trivial h1, fun q hq => ?_⟩
      cases List.mem_cons.mp hq with
      | inl e => rw [e]; show n < _; omega
      | inr e => exact h2 q e
/-- places between bounds, as places known with new symbols -/
noncomputable def sx_gO : Nat → sx_Gh → sx_O
  | _, [] => []
  | n, q :: r => (q.1, q.2.1, bif q.2.2.1 then .inl (.inr (sx_y n)) else .inl (.inl (sx_y n))) :: sx_gO (n + 1) r
noncomputable def sx_gE : Nat → sx_Gh → sx_E
  | _, [] => []
  | n, q :: r => (n, q.2.2.2.1, q.2.2.2.2) :: sx_gE (n + 1) r
theorem sx_gO_ok {p : Nat → Int} {w : pq_W} {m : Nat} : ∀ {g : sx_Gh} {n : Nat}, m ≤ n → (∀ q ∈ g, sx_lt m q.2.1) → sx_Gok p w g → ∃ p', (∀ s, s < n → p' s = p s) ∧ sx_Ook p' w (sx_gO n g) ∧ sx_Sat p' (sx_gE n g)
  | [], n, _, _, _ => ⟨p, fun _ _ => rfl, fun q hq => (by cases hq), fun q hq => (by cases hq)⟩
  | a :: r, n, hmn, hl, h => by
    obtain ⟨i, e1, x, e2, e3⟩ := h a List.mem_cons_self
    have hla := hl a List.mem_cons_self
    -- the rest first, over a valuation that has this symbol
    have h2 : sx_Gok (sx_up p n (sx_v2i x)) w r := by
      intro q hq
      obtain ⟨i, k1, y, k2, k3⟩ := h q (List.mem_cons_of_mem _ hq)
      refine ⟨i, ?_, y, k2, k3⟩
      rw [k1]
      refine (sx_ev_agree (n := m) (fun s hs => ?_) (hl q (List.mem_cons_of_mem _ hq))).symm
      unfold sx_up
      rw [if_neg (by omega)]
    obtain ⟨p', g1, g2, g3⟩ := sx_gO_ok (p := sx_up p n (sx_v2i x)) (g := r) (n := n + 1) (by omega) (fun q hq => hl q (List.mem_cons_of_mem _ hq)) h2
    have hn : p' n = sx_v2i x := by
      rw [g1 n (by omega)]
      unfold sx_up
      rw [if_pos rfl]
    have ag : ∀ s, s < n → p' s = p s := fun s hs => by
      rw [g1 s (by omega)]
      unfold sx_up
      rw [if_neg (by omega)]
    refine ⟨p', ag, fun q hq => ?_, fun q hq => ?_⟩
    · cases List.mem_cons.mp hq with
      | inl e =>
        rw [e]
        refine ⟨i, by rw [e1]; exact (sx_ev_agree (n := m) (fun s hs => ag s (by omega)) hla).symm, x, e2, ?_⟩
        show sx_d p' (bif a.2.2.1 then .inl (.inr (sx_y n)) else .inl (.inl (sx_y n))) x
        unfold sx_bv at e3
        split at e3
        · rename_i y hb
          rw [hb]
          show y.toInt = sx_ev p' (sx_y n)
          rw [sx_y_ev, hn]
          rfl
        · rename_i y hb
          rw [hb]
          show y.toInt = sx_ev p' (sx_y n)
          rw [sx_y_ev, hn]
          rfl
        · exact e3.elim
      | inr e => exact g2 q e
    · cases List.mem_cons.mp hq with
      | inl e =>
        rw [e]
        show a.2.2.2.1 ≤ p' n ∧ p' n ≤ a.2.2.2.2
        rw [hn]
        unfold sx_bv at e3
        split at e3
        · exact e3
        · exact e3
        · exact e3.elim
      | inr e => exact g3 q e
theorem sx_gO_lt {m : Nat} : ∀ {g : sx_Gh} {n : Nat}, m ≤ n → (∀ q ∈ g, sx_lt m q.2.1) → sx_Olt (n + g.length) (sx_gO n g) ∧ sx_Elt (n + g.length) (sx_gE n g)
  | [], _, _, _ => ⟨fun q hq => (by cases hq), fun q hq => (by cases hq)⟩
  | a :: r, n, hmn, hl => by
    obtain ⟨h1, h2⟩ := sx_gO_lt (g := r) (n := n + 1) (by omega) (fun q hq => hl q (List.mem_cons_of_mem _ hq))
    rw [List.length_cons, show n + (r.length + 1) = n + 1 + r.length by omega]
    constructor
    · intro q hq
      cases List.mem_cons.mp hq with
      | inl e =>
        rw [e]
        refine ⟨sx_lt_mono (by omega) (hl a List.mem_cons_self), ?_⟩
        show sx_vlt _ (bif a.2.2.1 then .inl (.inr (sx_y n)) else .inl (.inl (sx_y n)))
        cases a.2.2.1 with
        | true => exact sx_y_lt (by omega)
        | false => exact sx_y_lt (by omega)
      | inr e => exact h1 q e
    · intro q hq
      cases List.mem_cons.mp hq with
      | inl e => rw [e]; show n < _; omega
      | inr e => exact h2 q e
/-- the state at a method's start -/
noncomputable def sx_beg (P : sx_P) (k j : Nat) (M : pq_M) (as : List sx_ft) (kn : sx_O) (kg : sx_Gh) : sx_S := (as.length + kg.length, sx_gE as.length kg ++ sx_aes 0 as, [], sx_gO as.length kg ++ kn, k, (j, M, 0, sx_args 0 (sx_avs 0 as), [], sx_anf P.AN j), [])
noncomputable def sx_pre (P : sx_P) (M : pq_M) (as : List sx_ft) : Bool := sx_noany as && Nat.ble (sx_ssum (sx_avs 0 as)) (pq_mL M) && sx_rcv P M (sx_avs 0 as)
theorem sx_meth {P : sx_P} {w0 : pq_W} {J : pq_W → Prop} {po : sx_S → Option sx_V → Bool} {Post : pq_R → Prop} {j k f : Nat} {M : pq_M} {as : List sx_ft} {kn : sx_O} {kg : sx_Gh} {xs : List Value} (hct : ∀ q ∈ P.CT, sx_Kok P.T J q.1 q.2) (hJ : ∀ w, sx_Ty P.T w → sx_Fr P.A w0 w → J w) (hM : pq_tab[j]? = some M) (hpre : sx_pre P M as = true) (hx : sx_argm as xs) (hkl : sx_Olt as.length kn) (hkn : sx_Ook (sx_pv xs 0) w0 kn) (hgl : ∀ q ∈ kg, sx_lt as.length q.2.1) (hkg : sx_Gok (sx_pv xs 0) w0 kg) (ht : sx_Ty P.T w0)
    (hpo : ∀ S p ls st w rv r, po S rv = true → (∀ s, s < as.length → p s = sx_pv xs 0 s) → as.length ≤ S.n → sx_Mt P.T P.A w0 p S [] ls st w → sx_rvm p rv r → Post (r, w)) (h : sx_chk P po f [] (sx_beg P k j M as kn kg) = true) : ∃ r w1, pq_Ru (k + 1) j xs w0 (r, w1) ∧ Post (r, w1) := by
  unfold sx_pre at hpre
  rw [Bool.and_eq_true, Bool.and_eq_true] at hpre
  obtain ⟨⟨q1, q2⟩, q3⟩ := hpre
  obtain ⟨m1, m2⟩ := sx_avs_ok (n := 0) (p := sx_pv xs 0) q1 hx (fun s _ _ => rfl)
  obtain ⟨l1, l2⟩ := sx_avs_lt (as := as) (n := 0)
  rw [Nat.zero_add] at l1 l2
  obtain ⟨p', g1, g2, g3⟩ := sx_gO_ok (n := as.length) (Nat.le_refl _) hgl hkg
  obtain ⟨g4, g5⟩ := sx_gO_lt (g := kg) (n := as.length) (Nat.le_refl _) hgl
  have le : as.length ≤ as.length + kg.length := Nat.le_add_right _ _
  have hm : sx_Mt P.T P.A w0 p' (sx_beg P k j M as kn kg) [] (lv_args 0 xs) [] w0 := sx_mkMt
    (sat := fun q hq => by
      cases List.mem_append.mp hq with
      | inl e => exact g3 q e
      | inr e => exact sx_Sat_agree g1 l2 m2 q e)
    (fok := fun f hf => by cases hf)
    (elt := fun q hq => by
      cases List.mem_append.mp hq with
      | inl e => exact g5 q e
      | inr e => exact Nat.lt_of_lt_of_le (l2 q e) le)
    (clt := fun f hf => by cases hf)
    (olt := fun q hq => by
      cases List.mem_append.mp hq with
      | inl e => exact g4 q e
      | inr e => exact sx_Olt_mono le hkl q e)
    (flt := ⟨fun q hq => sx_vlt_mono le (sx_args_lt l1 q hq), fun v hv => by cases hv⟩)
    (klt := fun f hf => by cases hf)
    (ook := fun q hq => by
      cases List.mem_append.mp hq with
      | inl e => exact g2 q e
      | inr e => exact sx_Ook_agree g1 hkl hkn q e)
    (typ := ht)
    (frm := sx_Fr_refl _ _)
    (lsm := sx_lm_agree g1 (sx_args_lt l1) (sx_args_ok m1))
    (stm := trivial)
    (ksm := trivial)
    (tbm := ⟨hM, fun f hf => by cases hf⟩)
  obtain ⟨res, g, hp⟩ := sx_chk_ok (Post := Post) (N0 := as.length) (p0 := sx_pv xs 0) hct hJ (fun S p ls st w rv r h1 h2 h3 h4 h5 => hpo S p ls st w rv r h1 h2 h3 h4 h5) f [] _ h p' ⟨fun s hs => g1 s hs, le, fun h hh => by cases hh⟩ [] (lv_args 0 xs) [] w0 hm
  refine ⟨res.1, res.2, ru_of hM ?_ g, hp⟩
  rw [Bool.and_eq_true]
  refine ⟨?_, sx_rcv_ok q3 m1 ht⟩
  rw [sx_ssum_ok m1]
  exact q2
noncomputable def sx_pc0 (rt : Option sx_ft) (S : sx_S) (rv : Option sx_V) : Bool := match rt, rv with
  | none, none => true
  | some (.inl (lo, hi)), some (.inl (.inl e)) => sx_in S.E S.C e lo hi
  | some (.inr (.inl ())), some (.inl (.inr _)) => true
  | _, _ => false
/-- an answer that is a new symbol, perhaps with a place that holds the next -/
noncomputable def sx_pz (S : sx_S) (n : Nat) (rv : Option sx_V) (z : sx_An) : Bool := match rv, z with
  | some (.inl (.inl e)), ([i], .inl (.inl f), []) => sx_feq f (sx_y n) && sx_in S.E S.C e i.1 i.2
  | some (.inl (.inl e)), ([i, j], .inl (.inl f), [(r, g, .inl (.inr h))]) => sx_feq f (sx_y n) && sx_in S.E S.C e i.1 i.2 && sx_feq g (sx_y n) && sx_feq h (sx_y (n + 1)) && (match sx_of S.O r (sx_nrm S.E e) with
    | some (.inl (.inr u)) => sx_in S.E S.C u j.1 j.2
    | _ => false)
  | _, _ => false
noncomputable def sx_pc (c : sx_K) : sx_S → Option sx_V → Bool := fun S rv => match c.pt with
  | [] => sx_pc0 c.rt S rv
  | q :: l => (q :: l).any (sx_pz S c.as.length rv)
theorem sx_pz_ok {P : sx_P} {w0 : pq_W} {S : sx_S} {n : Nat} {p : Nat → Int} {ls : pq_L} {st : List Value} {w : pq_W} {rv : Option sx_V} {r : Option Value} {z : sx_An} (h : sx_pz S n rv z = true) (m : sx_Mt P.T P.A w0 p S [] ls st w) (hr : sx_rvm p rv r) : ∃ p2 : Nat → Int, (∀ s, s < n → p2 s = p s) ∧ sx_ivs p2 n z.1 ∧ (∃ x, r = some x ∧ sx_d p2 z.2.1 x) ∧ sx_Ook p2 w z.2.2 := by
  unfold sx_pz at h
  split at h
  · rename_i e i f
    rw [Bool.and_eq_true] at h
    have h2 := sx_in_ok m.sat m.fok h.2
    match r, hr with
    | some (.int x), hr =>
      have hr : x.toInt = sx_ev p e := hr
      have e0 : sx_up p n (sx_ev p e) n = sx_ev p e := by
        unfold sx_up
        rw [if_pos rfl]
      refine ⟨sx_up p n (sx_ev p e), fun s hs => ?_, ⟨?_, ?_, trivial⟩, ⟨_, rfl, ?_⟩, fun q hq => by cases hq⟩
      · unfold sx_up
        rw [if_neg (by omega)]
      · rw [e0]; exact h2.1
      · rw [e0]; exact h2.2
      · show x.toInt = sx_ev _ f
        rw [sx_feq_ok h.1, sx_y_ev, e0, hr]
  · rename_i e i j f r0 g hh
    rw [Bool.and_eq_true, Bool.and_eq_true, Bool.and_eq_true, Bool.and_eq_true] at h
    obtain ⟨⟨⟨⟨h1, h2⟩, h3⟩, h4⟩, h5⟩ := h
    have h2 := sx_in_ok m.sat m.fok h2
    match r, hr with
    | some (.int x), hr =>
      have hr : x.toInt = sx_ev p e := hr
      split at h5
      · rename_i u hu
        have h6 := sx_in_ok m.sat m.fok h5
        obtain ⟨i2, k1, y, k2, k3⟩ := m.ook _ (sx_of_mem hu)
        have k1 : (i2 : Int) = sx_ev p (sx_nrm S.E e) := k1
        rw [sx_nrm_ok m.sat] at k1
        have e0 : sx_up (sx_up p n (sx_ev p e)) (n + 1) (sx_ev p u) n = sx_ev p e := by
          unfold sx_up
          rw [if_neg (by omega), if_pos rfl]
        have e1 : sx_up (sx_up p n (sx_ev p e)) (n + 1) (sx_ev p u) (n + 1) = sx_ev p u := by
          unfold sx_up
          rw [if_pos rfl]
        refine ⟨sx_up (sx_up p n (sx_ev p e)) (n + 1) (sx_ev p u), fun s hs => ?_, ⟨?_, ?_, ?_, ?_, trivial⟩, ⟨_, rfl, ?_⟩, fun q hq => ?_⟩
        · unfold sx_up
          rw [if_neg (by omega), if_neg (by omega)]
        · rw [e0]; exact h2.1
        · rw [e0]; exact h2.2
        · rw [e1]; exact h6.1
        · rw [e1]; exact h6.2
        · show x.toInt = sx_ev _ f
          rw [sx_feq_ok h1, sx_y_ev, e0, hr]
        · cases List.mem_singleton.mp hq
          refine ⟨i2, ?_, y, k2, ?_⟩
          · show (i2 : Int) = sx_ev _ g
            rw [sx_feq_ok h3, sx_y_ev, e0, k1]
          · match y, k3 with
            | .long yy, k3 =>
              have k3 : yy.toInt = sx_ev p u := k3
              show yy.toInt = sx_ev _ hh
              rw [sx_feq_ok h4, sx_y_ev, e1, k3]
      · cases h5
  · cases h
theorem sx_pc0_ok {P : sx_P} {w0 : pq_W} {rt : Option sx_ft} {S : sx_S} {p : Nat → Int} {ls : pq_L} {st : List Value} {w : pq_W} {rv : Option sx_V} {r : Option Value} (h : sx_pc0 rt S rv = true) (m : sx_Mt P.T P.A w0 p S [] ls st w) (hr : sx_rvm p rv r) : sx_rtm rt r := by
  unfold sx_pc0 at h
  split at h
  · cases r with
    | none => trivial
    | some x => exact hr.elim
  · rename_i lo hi e
    match r, hr with
    | some (.int x), hr =>
      have hr : x.toInt = sx_ev p e := hr
      show lo ≤ x.toInt ∧ x.toInt ≤ hi
      rw [hr]
      exact sx_in_ok m.sat m.fok h
  · match r, hr with
    | some (.long x), hr => trivial
  · cases h
theorem sx_pc_ok {P : sx_P} {w0 : pq_W} {c : sx_K} {as : List Value} {S : sx_S} {p : Nat → Int} {ls : pq_L} {st : List Value} {w : pq_W} {rv : Option sx_V} {r : Option Value} (h : sx_pc c S rv = true) (ha : ∀ s, s < c.as.length → p s = sx_pv as 0 s) (m : sx_Mt P.T P.A w0 p S [] ls st w) (hr : sx_rvm p rv r) : sx_Rm c as r w := by
  unfold sx_pc at h
  unfold sx_Rm
  cases hra : c.pt with
  | cons q l =>
    rw [hra] at h
    have h : (q :: l).any (sx_pz S c.as.length rv) = true := h
    rw [List.any_eq_true] at h
    obtain ⟨z, hz, h⟩ := h
    obtain ⟨p2, k1, k2, k3, k4⟩ := sx_pz_ok h m hr
    exact ⟨z, hz, p2, fun s hs => by rw [k1 s hs, ha s hs], k2, k3, k4⟩
  | nil =>
    rw [hra] at h
    exact sx_pc0_ok (rt := c.rt) h m hr
noncomputable def sx_oltb (n : Nat) (O : sx_O) : Bool := O.all fun q => (q.2.1.2.all fun t => Nat.blt t.1 n) && (match q.2.2 with
  | .inl (.inl e) => e.2.all fun t => Nat.blt t.1 n
  | .inl (.inr e) => e.2.all fun t => Nat.blt t.1 n
  | .inr (.inl e) => e.2.all fun t => Nat.blt t.1 n
  | .inr (.inr _) => true)
theorem sx_oltb_ok {n : Nat} {O : sx_O} (h : sx_oltb n O = true) : sx_Olt n O := by
  have key : ∀ e : sx_F, (e.2.all fun t => Nat.blt t.1 n) = true → sx_lt n e := fun e he q hq => by
    rw [List.all_eq_true] at he
    exact Nat.le_of_ble_eq_true (he q hq)
  intro q hq
  unfold sx_oltb at h
  rw [List.all_eq_true] at h
  have h1 := h q hq
  rw [Bool.and_eq_true] at h1
  refine ⟨key _ h1.1, ?_⟩
  have h2 := h1.2
  generalize q.2.2 = v at h2 ⊢
  rcases v with (e | e) | (e | k)
  · exact key _ h2
  · exact key _ h2
  · exact key _ h2
  · trivial
noncomputable def sx_gltb (n : Nat) (g : sx_Gh) : Bool := g.all fun q => q.2.1.2.all fun t => Nat.blt t.1 n
theorem sx_gltb_ok {n : Nat} {g : sx_Gh} (h : sx_gltb n g = true) : ∀ q ∈ g, sx_lt n q.2.1 := by
  intro q hq t ht
  unfold sx_gltb at h
  rw [List.all_eq_true] at h
  have h1 := h q hq
  rw [List.all_eq_true] at h1
  exact Nat.le_of_ble_eq_true (h1 t ht)
theorem sx_con {P : sx_P} {J : pq_W → Prop} {j k f : Nat} {M : pq_M} {c : sx_K} (hct : ∀ q ∈ P.CT, sx_Kok P.T J q.1 q.2) (hJ : ∀ w w1, J w → sx_Ty P.T w1 → sx_Fr P.A w w1 → J w1) (hM : pq_tab[j]? = some M) (hpre : (sx_pre P M c.as && sx_oltb c.as.length c.kn && sx_gltb c.as.length c.kg) = true) (hA : P.A = c.md) (hk : c.k = k + 1) (h : sx_chk P (sx_pc c) f [] (sx_beg P k j M c.as c.kn c.kg) = true) : sx_Kok P.T J j c := by
  intro as w ha hkn hkg ht hj
  rw [Bool.and_eq_true, Bool.and_eq_true] at hpre
  obtain ⟨r, w1, g1, g2, g3, g4⟩ := sx_meth (P := P) (w0 := w) (J := J) (po := sx_pc c) (Post := fun res => sx_Rm c as res.1 res.2 ∧ sx_Ty P.T res.2 ∧ sx_Fr P.A w res.2) hct (fun w1 t1 f1 => hJ w w1 hj t1 f1) hM hpre.1.1 ha (sx_oltb_ok hpre.1.2) hkn (sx_gltb_ok hpre.2) hkg ht (fun S p ls st w2 rv r g1 ga _ m g2 => ⟨sx_pc_ok g1 ga m g2, m.typ, m.frm⟩) h
  refine ⟨r, w1, by rw [hk]; exact g1, g3, hJ w w1 hj g3 g4, g2, ?_⟩
  rw [← hA]
  exact g4
