/-! cells -/
/-- is a stretch of places one that may be written -/
noncomputable def sx_al0 (A : sx_A) (r : Nat) (l h : Int) : Bool := A.any fun q => Nat.beq q.1 r && sx_le q.2.1 l && sx_le h q.2.2
theorem sx_al0_ok {A : sx_A} {r i : Nat} {l h : Int} (hb : sx_al0 A r l h = true) (h1 : l ≤ i) (h2 : (i : Int) ≤ h) : sx_InA A r i := by
  unfold sx_al0 at hb
  rw [List.any_eq_true] at hb
  obtain ⟨q, hq, k⟩ := hb
  simp only [Bool.and_eq_true] at k
  have d1 : q.2.1 ≤ l := sx_leT k.1.2
  have d2 : h ≤ q.2.2 := sx_leT k.2
  exact ⟨q, hq, Nat.eq_of_beq_eq_true k.1.1, by omega, by omega⟩
noncomputable def sx_al1 (A : sx_A) (r : Nat) (lo hi c1 c2 X : Int) : Bool := bif sx_le lo (X + c1) then sx_al0 A r (X + c1) (bif sx_le (X + c2) hi then X + c2 else hi) else sx_al0 A r lo (bif sx_le (X + c2) hi then X + c2 else hi)
theorem sx_al1_ok {A : sx_A} {r i : Nat} {lo hi c1 c2 X : Int} (h : sx_al1 A r lo hi c1 c2 X = true) (h1 : lo ≤ i) (h2 : (i : Int) ≤ hi) (h3 : X + c1 ≤ i) (h4 : (i : Int) ≤ X + c2) : sx_InA A r i := by
  have key : (i : Int) ≤ (bif sx_le (X + c2) hi then X + c2 else hi) := by
    cases sx_le (X + c2) hi with
    | true => exact h4
    | false => exact h2
  unfold sx_al1 at h
  cases c : sx_le lo (X + c1) with
  | true =>
    rw [c] at h
    exact sx_al0_ok h h3 key
  | false =>
    rw [c] at h
    exact sx_al0_ok h h1 key
noncomputable def sx_alv (A : sx_A) (E : sx_E) (r : Nat) (e : sx_F) (s : Int) : Bool := match sx_bd E e, sx_tb E (sx_nd s e.2) with
  | some b, some o => sx_le 1 s && (List.range ((b.2 - (e.1 + o.1)) / s + (e.1 + o.2 - b.1) / s + 1).toNat).all fun k => sx_al1 A r b.1 b.2 (e.1 + o.1) (e.1 + o.2) (s * ((k : Int) - (e.1 + o.2 - b.1) / s))
  | _, _ => false
theorem sx_alv_ok {p : Nat → Int} {A : sx_A} {E : sx_E} {r i : Nat} {e : sx_F} {s : Int} (hE : sx_Sat p E) (h : sx_alv A E r e s = true) (hi : (i : Int) = sx_ev p e) : sx_InA A r i := by
  unfold sx_alv at h
  split at h
  · rename_i b o hb ho
    rw [Bool.and_eq_true] at h
    have hs : 1 ≤ s := sx_leT h.1
    have h2 := List.all_eq_true.mp h.2
    have B := sx_bd_ok hE hb
    have O := sx_tb_ok hE _ _ ho
    obtain ⟨M, hM⟩ := sx_nd_ok p s e.2
    have ev : sx_ev p e = e.1 + sx_ts p e.2 := rfl
    have m0 : -M ≤ (e.1 + o.2 - b.1) / s := (Int.le_ediv_iff_mul_le (by omega)).mpr (by rw [Int.neg_mul, Int.mul_comm]; omega)
    have m1 : M ≤ (b.2 - (e.1 + o.1)) / s := (Int.le_ediv_iff_mul_le (by omega)).mpr (by rw [Int.mul_comm]; omega)
    obtain ⟨k, hk⟩ : ∃ k : Nat, (k : Int) = M + (e.1 + o.2 - b.1) / s := ⟨(M + (e.1 + o.2 - b.1) / s).toNat, by omega⟩
    have h3 : sx_al1 A r b.1 b.2 (e.1 + o.1) (e.1 + o.2) (s * ((k : Int) - (e.1 + o.2 - b.1) / s)) = true := h2 k (List.mem_range.mpr (by omega))
    have ek : (k : Int) - (e.1 + o.2 - b.1) / s = M := by omega
    rw [ek] at h3
    exact sx_al1_ok h3 (by omega) (by omega) (by omega) (by omega)
  · cases h
noncomputable def sx_alw (A : sx_A) (E : sx_E) (C : List sx_F) (r : Nat) (e : sx_F) : Bool := (A.any fun q => Nat.beq q.1 r && sx_in E C e q.2.1 q.2.2) || ([6, 10, 34, 15, 73, 3] : List Int).any (sx_alv A E r e)
theorem sx_alw_ok {p : Nat → Int} {A : sx_A} {E : sx_E} {C : List sx_F} {r i : Nat} {e : sx_F} (hE : sx_Sat p E) (hC : sx_Fok p C) (h : sx_alw A E C r e = true) (hi : (i : Int) = sx_ev p e) : sx_InA A r i := by
  unfold sx_alw at h
  rw [Bool.or_eq_true] at h
  rcases h with h | h
  · rw [List.any_eq_true] at h
    obtain ⟨q, hq, h⟩ := h
    rw [Bool.and_eq_true] at h
    have h2 := sx_in_ok hE hC h.2
    exact ⟨q, hq, Nat.eq_of_beq_eq_true h.1, by omega, by omega⟩
  · rw [List.any_eq_true] at h
    obtain ⟨s, _, h⟩ := h
    exact sx_alv_ok hE h hi
theorem sx_ki {p : Nat → Int} {k : Nat} : ((k : Nat) : Int) = sx_ev p (sx_k k) := (sx_k_ev p k).symm
section SXE
variable {P : sx_P} {w0 : pq_W} {S : sx_S} {pc0 nx t : Nat} {i : Instr} {a : List Nat} {v : Value}
noncomputable def sx_c19 (P : sx_P) (S : sx_S) (nx : Nat) (a : List Nat) : Option (List sx_S) := match S.fr.st with
  | .inr (.inr r) :: st => match P.T[r]? with
    | some (.inl (ci, fs)) => bif Nat.beq ci (a.headD 0) then (match sx_of S.O r (sx_k (a.getD 1 0 : Nat)) with
      | some z => some [sx_to S nx (z :: st)]
      | none => match fs[(a.getD 1 0)]? with
        | some (.inl (lo, hi)) => some [sx_pshO S nx st r (sx_k (a.getD 1 0 : Nat)) (.inr (false, lo, hi))]
        | some (.inr (.inl ())) => some [sx_pshO S nx st r (sx_k (a.getD 1 0 : Nat)) (sx_zf true)]
        | some (.inr (.inr (.inl n))) => some [sx_to S nx (.inr (.inr n) :: st)]
        | _ => none) else none
    | _ => none
  | _ => none
theorem sx_obj {T : List sx_ct} {w : pq_W} {r ci : Nat} {fs : List sx_ft} (h : sx_Ty T w) (ht : T[r]? = some (.inl (ci, fs))) : ∃ vs, w[r]? = some (.inr (ci, vs)) ∧ vs.length = fs.length ∧ ∀ (i : Nat) t v, fs[i]? = some t → vs[i]? = some v → sx_fok t v := by
  obtain ⟨c, h1, h2⟩ := sx_Ty_get h ht
  match c, h2 with
  | .inr (c, vs), h2 =>
    obtain ⟨e, h3, h4⟩ := h2
    subst e
    exact ⟨vs, h1, h3, h4⟩
theorem sx_c19_ok {l : List sx_S} (hq : pq_look (pq_cd S.fr.M) S.fr.pc = some (pc0, 19, nx, i, a, v, t)) (h : sx_c19 P S nx a = some l) : sx_Goes P w0 S l := by
  intro p Kc ls st w m
  unfold sx_c19 at h
  split at h
  · rename_i r rs hs
    have hm := m.stm
    have hf := m.flt.2
    rw [hs] at hm hf
    match st, hm with
    | .ref r2 :: st, hm =>
      have e : r2 = r := hm.1
      subst e
      have hf2 : ∀ v ∈ rs, sx_vlt S.n v := fun v hv => hf v (List.mem_cons_of_mem _ hv)
      split at h
      · rename_i ci fs hT
        obtain ⟨vs, hw, hl, hok⟩ := sx_obj m.typ hT
        cases hb : Nat.beq ci (a.headD 0) with
        | false => rw [hb] at h; cases h
        | true =>
          rw [hb] at h
          have hrow : ∀ x, vs[(a.getD 1 0)]? = some x → ∀ Post, sx_Ok Post S.k Kc S.fr.M nx ls (x :: st) w → sx_Ok Post S.k Kc S.fr.M S.fr.pc ls (.ref r2 :: st) w := fun x hx Post => sx_row hq (fun call f => by
            show (match w[r2]? with
              | some (.inr (ci, fs)) => bif Nat.beq ci (a.headD 0) then (match fs[(a.getD 1 0)]? with
                | some z => _
                | none => none) else none
              | _ => none) = _
            rw [hw]
            show (bif Nat.beq ci (a.headD 0) then (match vs[(a.getD 1 0)]? with
                | some z => _
                | none => none) else none) = _
            rw [hb, hx]
            rfl)
          have hwg : sx_wg w r2 (a.getD 1 0) = vs[(a.getD 1 0)]? := sx_wg_of hw
          have h : (match sx_of S.O r2 (sx_k (a.getD 1 0 : Nat)) with
            | some z => some [sx_to S nx (z :: rs)]
            | none => match fs[(a.getD 1 0)]? with
              | some (.inl (lo, hi)) => some [sx_pshO S nx rs r2 (sx_k (a.getD 1 0 : Nat)) (.inr (false, lo, hi))]
              | some (.inr (.inl ())) => some [sx_pshO S nx rs r2 (sx_k (a.getD 1 0 : Nat)) (sx_zf true)]
              | some (.inr (.inr (.inl n))) => some [sx_to S nx (.inr (.inr n) :: rs)]
              | _ => none) = some l := h
          split at h
          · rename_i z hz
            cases h
            have hmem := sx_of_mem hz
            obtain ⟨i2, e1, x, e2, e3⟩ := m.ook _ hmem
            have e1 : (i2 : Int) = sx_ev p (sx_k (a.getD 1 0 : Nat)) := e1
            rw [sx_k_ev] at e1
            have e1 : i2 = a.getD 1 0 := Int.ofNat.inj e1
            subst e1
            have e2 : sx_wg w r2 (a.getD 1 0) = some x := e2
            rw [hwg] at e2
            exact ⟨_, List.mem_singleton.mpr rfl, Kc, ls, x :: st, w, ⟨p, fun _ _ => rfl, Nat.le_refl _, sx_to_ok m (sx_memc (m.olt _ hmem).2 hf2) ⟨e3, hm.2⟩⟩, hrow x e2⟩
          · have hex : ∀ ft, fs[(a.getD 1 0)]? = some ft → ∃ x, vs[(a.getD 1 0)]? = some x ∧ sx_fok ft x := by
              intro ft hft
              have hlt : a.getD 1 0 < vs.length := by
                rw [hl]
                exact (List.getElem?_eq_some_iff.mp hft).1
              exact ⟨_, List.getElem?_eq_getElem hlt, hok _ _ _ hft (List.getElem?_eq_getElem hlt)⟩
            split at h
            · rename_i lo hi hft
              cases h
              obtain ⟨x, hx, hxo⟩ := hex _ hft
              match x, hxo with
              | .int y, hxo =>
                obtain ⟨e1, e2, e3⟩ := sx_pshO_k S nx rs r2 (sx_k (a.getD 1 0 : Nat)) (.inr (false, lo, hi))
                refine ⟨_, List.mem_singleton.mpr rfl, Kc, ls, .int y :: st, w, sx_pshO_ok (q := .inr (false, lo, hi)) m hf2 hm.2 trivial ⟨y, rfl, hxo.1, hxo.2⟩ (sx_k_lt _ _) sx_ki (by rw [hwg]; exact hx), ?_⟩
                rw [e1, e2, e3]
                exact hrow _ hx
            · rename_i hft
              cases h
              obtain ⟨x, hx, hxo⟩ := hex _ hft
              match x, hxo with
              | .long y, hxo =>
                obtain ⟨e1, e2, e3⟩ := sx_pshO_k S nx rs r2 (sx_k (a.getD 1 0 : Nat)) (sx_zf true)
                refine ⟨_, List.mem_singleton.mpr rfl, Kc, ls, .long y :: st, w, sx_pshO_ok (q := sx_zf true) m hf2 hm.2 trivial (sx_full64 p y) (sx_k_lt _ _) sx_ki (by rw [hwg]; exact hx), ?_⟩
                rw [e1, e2, e3]
                exact hrow _ hx
            · rename_i n hft
              cases h
              obtain ⟨x, hx, hxo⟩ := hex _ hft
              match x, hxo with
              | .ref y, hxo =>
                exact ⟨_, List.mem_singleton.mpr rfl, Kc, ls, .ref y :: st, w, ⟨p, fun _ _ => rfl, Nat.le_refl _, sx_to_ok m (sx_memc trivial hf2) ⟨hxo, hm.2⟩⟩, hrow _ hx⟩
            · cases h
      · cases h
  · cases h
/-- a text's field -/
noncomputable def sx_c31 (P : sx_P) (S : sx_S) (nx : Nat) (v : Value) : Option (List sx_S) := match S.fr.st with
  | .inr (.inr r) :: st => match P.T[r]?, sx_cv v with
    | some (.inl (ci, _)), some z => bif Nat.beq r 3 && Nat.beq ci 99 then some [sx_to S nx (z :: st)] else none
    | _, _ => none
  | _ => none
theorem sx_c31_ok {l : List sx_S} (hq : pq_look (pq_cd S.fr.M) S.fr.pc = some (pc0, 31, nx, i, a, v, t)) (h : sx_c31 P S nx v = some l) : sx_Goes P w0 S l := by
  intro p Kc ls st w m
  unfold sx_c31 at h
  split at h
  · rename_i r rs hs
    have hm := m.stm
    have hf := m.flt.2
    rw [hs] at hm hf
    match st, hm with
    | .ref r2 :: st, hm =>
      have e : r2 = r := hm.1
      subst e
      split at h
      · rename_i ci fs z hT hz
        obtain ⟨vs, hw, hl, hok⟩ := sx_obj m.typ hT
        cases hb : Nat.beq r2 3 && Nat.beq ci 99 with
        | false => rw [hb] at h; cases h
        | true =>
          rw [hb] at h
          cases h
          obtain ⟨h1, h2⟩ := sx_cv_ok (p := p) (n := S.n) hz
          refine ⟨_, List.mem_singleton.mpr rfl, Kc, ls, v :: st, w, ⟨p, fun _ _ => rfl, Nat.le_refl _, sx_to_ok m (sx_memc h2 (fun v hv => hf v (List.mem_cons_of_mem _ hv))) ⟨h1, hm.2⟩⟩, fun Post => sx_row hq (fun call f => ?_)⟩
          show (match w[r2]? with
            | some (.inr (ci, _)) => bif Nat.beq r2 3 && Nat.beq ci 99 then _ else none
            | _ => none) = _
          rw [hw]
          show (bif Nat.beq r2 3 && Nat.beq ci 99 then _ else none) = _
          rw [hb]
          rfl
      · cases h
  · cases h
/-- may a value stand in a field -/
noncomputable def sx_ffit (E : sx_E) (C : List sx_F) (ft : sx_ft) (c : Nat) (z : sx_V) : Bool := match z with
  | .inl (.inl e) => (match ft with
    | .inl (lo, hi) => sx_in E C e lo hi
    | .inr (.inr (.inr ())) => true
    | _ => false) && (Nat.beq c 0 || Nat.beq c 2 && sx_in E C e 0 1)
  | .inl (.inr _) => (match ft with
    | .inr (.inl ()) => true
    | .inr (.inr (.inr ())) => true
    | _ => false) && Nat.beq c 1
  | .inr (.inr n) => (match ft with
    | .inr (.inr (.inl m)) => Nat.beq n m
    | .inr (.inr (.inr ())) => true
    | _ => false) && Nat.beq c 3
  | .inr (.inl _) => false
theorem sx_ffit_ok {p : Nat → Int} {E : sx_E} {C : List sx_F} (hE : sx_Sat p E) (hC : sx_Fok p C) {ft : sx_ft} {c : Nat} {z : sx_V} {x : Value} (h : sx_ffit E C ft c z = true) (hd : sx_d p z x) : sx_fok ft x ∧ pq_fit c x = true := by
  unfold sx_ffit at h
  rcases z with (e | e) | (e | n)
  ·
    match x, hd with
    | .int y, hd =>
      have hd : y.toInt = sx_ev p e := hd
      rw [Bool.and_eq_true] at h
      constructor
      · rcases ft with ⟨lo, hi⟩ | _ | k | _
        ·
          have := sx_in_ok hE hC h.1
          show lo ≤ y.toInt ∧ y.toInt ≤ hi
          rw [hd]
          exact this
        · cases h.1
        · cases h.1
        · trivial
      · have h2 := h.2
        rw [Bool.or_eq_true, Bool.and_eq_true] at h2
        show (bif Nat.beq c 0 then true else bif Nat.beq c 2 then decide (y = 0 ∨ y = 1) else false) = true
        rcases h2 with h2 | h2
        · rw [h2]; rfl
        · rw [h2.1]
          cases Nat.beq c 0 with
          | true => rfl
          | false => exact decide_eq_true (sx_01 (by rw [hd]; exact sx_in_ok hE hC h2.2))
  ·
    match x, hd with
    | .long y, hd =>
      rw [Bool.and_eq_true] at h
      constructor
      · rcases ft with ⟨lo, hi⟩ | _ | k | _
        · cases h.1
        · trivial
        · cases h.1
        · trivial
      · exact h.2
  · cases h
  ·
    match x, hd with
    | .ref y, hd =>
      have hd : y = n := hd
      rw [Bool.and_eq_true] at h
      constructor
      · rcases ft with ⟨lo, hi⟩ | _ | k | _
        · cases h.1
        · cases h.1
        · show y = k
          rw [hd]
          exact Nat.eq_of_beq_eq_true h.1
        · trivial
      · exact h.2
noncomputable def sx_c20 (P : sx_P) (S : sx_S) (nx : Nat) (a : List Nat) : Option (List sx_S) := match S.fr.st with
  | z :: .inr (.inr r) :: st => match P.T[r]? with
    | some (.inl (ci, fs)) => match fs[(a.getD 1 0)]? with
      | some ft => bif Nat.beq ci (a.headD 0) && Nat.ble pq_E r && sx_ffit S.E S.C ft (a.getD 2 9) z && sx_alw P.A S.E S.C r (sx_k (a.getD 1 0 : Nat)) then some [((sx_to S nx st).n, (sx_to S nx st).E, (sx_to S nx st).C, (r, sx_k (a.getD 1 0 : Nat), z) :: sx_keep S.E r (sx_k (a.getD 1 0 : Nat)) S.O, (sx_to S nx st).k, (sx_to S nx st).fr, (sx_to S nx st).K)] else none
      | none => none
    | _ => none
  | _ => none
theorem sx_blt {a b : Nat} (h : a < b) : Nat.blt a b = true := Nat.ble_eq_true_of_le h
theorem sx_c20_ok {l : List sx_S} (hq : pq_look (pq_cd S.fr.M) S.fr.pc = some (pc0, 20, nx, i, a, v, t)) (h : sx_c20 P S nx a = some l) : sx_Goes P w0 S l := by
  intro p Kc ls st w m
  unfold sx_c20 at h
  split at h
  · rename_i z r rs hs
    have hm := m.stm
    have hf := m.flt.2
    rw [hs] at hm hf
    match st, hm with
    | x :: .ref r2 :: st, hm =>
      have e : r2 = r := hm.2.1
      subst e
      have hf2 : ∀ v ∈ rs, sx_vlt S.n v := fun v hv => hf v (List.mem_cons_of_mem _ (List.mem_cons_of_mem _ hv))
      split at h
      · rename_i ci fs hT
        obtain ⟨vs, hw, hl, hok⟩ := sx_obj m.typ hT
        split at h
        · rename_i ft hft
          have hk : a.getD 1 0 < vs.length := by
            rw [hl]
            exact (List.getElem?_eq_some_iff.mp hft).1
          cases hb : Nat.beq ci (a.headD 0) && Nat.ble pq_E r2 && sx_ffit S.E S.C ft (a.getD 2 9) z && sx_alw P.A S.E S.C r2 (sx_k (a.getD 1 0 : Nat)) with
          | false => rw [hb] at h; cases h
          | true =>
            rw [hb] at h
            cases h
            rw [Bool.and_eq_true, Bool.and_eq_true, Bool.and_eq_true] at hb
            obtain ⟨⟨⟨b1, b2⟩, b3⟩, b4⟩ := hb
            obtain ⟨f1, f2⟩ := sx_ffit_ok m.sat m.fok b3 hm.1
            have hr2 : r2 < w.length := (List.getElem?_eq_some_iff.mp hw).1
            have hwg : ∀ r3 i3, sx_wg (w.set r2 (.inr (ci, vs.set (a.getD 1 0) x))) r3 i3 = if r3 = r2 ∧ i3 = a.getD 1 0 then some x else sx_wg w r3 i3 := by
              intro r3 i3
              rw [sx_wg_set hr2]
              by_cases e : r2 = r3
              · subst e
                rw [if_pos rfl]
                show (vs.set (a.getD 1 0) x)[i3]? = _
                by_cases e2 : i3 = a.getD 1 0
                · rw [if_pos ⟨rfl, e2⟩, e2, List.getElem?_set_self hk]
                · rw [if_neg (fun z => e2 z.2), List.getElem?_set_ne (fun z => e2 z.symm), sx_wg_of hw]
                  rfl
              · rw [if_neg e, if_neg (fun z => e z.1.symm)]
            have hty : sx_Ty P.T (w.set r2 (.inr (ci, vs.set (a.getD 1 0) x))) := by
              refine sx_Ty_set m.typ hT ⟨rfl, by rw [List.length_set]; exact hl, fun i3 t3 v3 g1 g2 => ?_⟩
              by_cases e2 : a.getD 1 0 = i3
              · subst e2
                rw [List.getElem?_set_self hk] at g2
                cases g2
                rw [hft] at g1
                cases g1
                exact f1
              · rw [List.getElem?_set_ne e2] at g2
                exact hok _ _ _ g1 g2
            have hInA := sx_alw_ok m.sat m.fok b4 sx_ki
            have m2 := sx_to_ok (nx := nx) m hf2 hm.2.2
            refine ⟨_, List.mem_singleton.mpr rfl, Kc, ls, st, w.set r2 (.inr (ci, vs.set (a.getD 1 0) x)), ⟨p, fun _ _ => rfl, Nat.le_refl _, (sx_mkMt (sat := m2.sat) (fok := m2.fok) (elt := m2.elt) (clt := m2.clt) (olt := ?_) (flt := m2.flt) (klt := m2.klt) (ook := ?_) (typ := hty) (frm := ?_) (lsm := m2.lsm) (stm := m2.stm) (ksm := m2.ksm) (tbm := m2.tbm))⟩, fun Post => sx_row hq (fun call f => ?_)⟩
            · intro q hq2
              cases List.mem_cons.mp hq2 with
              | inl e => rw [e]; exact ⟨sx_k_lt _ _, hf _ List.mem_cons_self⟩
              | inr e => exact sx_keep_lt m.olt q e
            · intro q hq2
              cases List.mem_cons.mp hq2 with
              | inl e =>
                rw [e]
                exact ⟨_, sx_ki, x, by rw [hwg, if_pos ⟨rfl, rfl⟩], hm.1⟩
              | inr e =>
                refine sx_keep_ok m.sat sx_ki m.ook (fun r3 i3 hn => ?_) q e
                rw [hwg, if_neg hn]
            · intro r3 i3 hn
              rw [hwg, if_neg (fun z => hn (by rw [z.1, z.2]; exact hInA))]
              exact m.frm r3 i3 hn
            · show (match w[r2]? with
                | some (.inr (ci, fs)) => bif Nat.beq ci (a.headD 0) && Nat.ble pq_E r2 && Nat.blt (a.getD 1 0) fs.length && pq_fit (a.getD 2 9) x then _ else none
                | _ => none) = _
              rw [hw]
              show (bif Nat.beq ci (a.headD 0) && Nat.ble pq_E r2 && Nat.blt (a.getD 1 0) vs.length && pq_fit (a.getD 2 9) x then _ else none) = _
              rw [b1, b2, sx_blt hk, f2]
              rfl
        · cases h
      · cases h
  · cases h
/-! arrays; a place's bounds may need two facts -/
noncomputable def sx_inx (E : sx_E) (C : List sx_F) (e : sx_F) (l h : Int) : Bool := sx_lo E C e l && (sx_hi E C e h || C.any fun f => sx_hi E C (sx_sub e f) h)
theorem sx_inx_ok {p : Nat → Int} {E : sx_E} {C : List sx_F} (hE : sx_Sat p E) (hC : sx_Fok p C) {e : sx_F} {l h : Int} (hh : sx_inx E C e l h = true) : l ≤ sx_ev p e ∧ sx_ev p e ≤ h := by
  unfold sx_inx at hh
  rw [Bool.and_eq_true, Bool.or_eq_true, List.any_eq_true] at hh
  refine ⟨sx_lo_ok hE hC hh.1, ?_⟩
  rcases hh.2 with h1 | ⟨f, hf, h1⟩
  · exact sx_hi_ok hE hC h1
  · have h2 := sx_hi_ok hE hC h1
    rw [sx_sub_ev] at h2
    have h3 := hC f hf
    omega
noncomputable def sx_tyc (ty : FieldType) (c : Nat) : Bool := match ty, c with
  | .int, 0 => true
  | .byte, 2 => true
  | .boolean, 2 => true
  | _, _ => false
theorem sx_pin {x : Int32} {n : Nat} (h : 0 ≤ x.toInt ∧ x.toInt ≤ (n : Int) - 1) : pq_in x n = true ∧ ((x.toNatClampNeg : Nat) : Int) = x.toInt ∧ x.toNatClampNeg < n := by
  have e : ((x.toNatClampNeg : Nat) : Int) = x.toInt := by
    show ((x.toInt.toNat : Nat) : Int) = x.toInt
    exact Int.toNat_of_nonneg h.1
  refine ⟨decide_eq_true ?_, e, by omega⟩
  rintro (g | g)
  · have := Int32.lt_iff_toInt_lt.mp g
    rw [show (0 : Int32).toInt = 0 from rfl] at this
    omega
  · omega
theorem sx_arr {T : List sx_ct} {w : pq_W} {r n : Nat} {ty : FieldType} {gs : List sx_G} (h : sx_Ty T w) (ht : T[r]? = some (.inr (.inl (ty, n, gs)))) : ∃ f, w[r]? = some (.inl (ty, n, .inl f)) ∧ ∀ g ∈ gs, sx_gok g f := by
  obtain ⟨c, h1, h2⟩ := sx_Ty_get h ht
  match c, h2 with
  | .inl (ty', n', .inl f), h2 =>
    obtain ⟨e1, e2, h4⟩ := h2
    subst e1
    subst e2
    exact ⟨f, h1, h4⟩
theorem sx_arrL {T : List sx_ct} {w : pq_W} {r n : Nat} {lo hi : Int} (h : sx_Ty T w) (ht : T[r]? = some (.inr (.inr (.inl (n, lo, hi))))) : ∃ f, w[r]? = some (.inl (.long, n, .inr f)) ∧ ∀ i, lo ≤ (f i).toInt ∧ (f i).toInt ≤ hi := by
  obtain ⟨c, h1, h2⟩ := sx_Ty_get h ht
  match c, h2 with
  | .inl (ty', n', .inr f), h2 =>
    obtain ⟨e1, e2, e3⟩ := h2
    subst e1
    subst e2
    exact ⟨f, h1, e3⟩
noncomputable def sx_c21 (P : sx_P) (S : sx_S) (nx : Nat) (a : List Nat) : Option (List sx_S) := match S.fr.st with
  | .inl (.inl e) :: .inr (.inr r) :: st => match P.T[r]? with
    | some (.inr (.inl (ty, n, gs))) => bif sx_tyc ty (a.headD 9) && sx_inx S.E S.C e 0 ((n : Int) - 1) then (match sx_of S.O r e with
      | some z => some [sx_to S nx (z :: st)]
      | none => some [sx_pshO S nx st r e (.inr (false, (sx_rg S.E S.C e gs).1, (sx_rg S.E S.C e gs).2))]) else none
    | some (.inr (.inr (.inl (n, lo, hi)))) => bif Nat.beq (a.headD 9) 1 && sx_inx S.E S.C e 0 ((n : Int) - 1) then (match sx_of S.O r e with
      | some z => some [sx_to S nx (z :: st)]
      | none => some [sx_pshO S nx st r e (.inr (true, lo, hi))]) else none
    | _ => none
  | _ => none
theorem sx_ald_ok {ty : FieldType} {n : Nat} {f : Nat → Int32} {c : Nat} {x : Int32} (h : sx_tyc ty c = true) (hx : pq_in x n = true) : pq_ald (.inl (ty, n, .inl f)) x c = some (.int (f x.toNatClampNeg)) := by
  unfold sx_tyc at h
  split at h
  · exact if_pos ⟨rfl, hx⟩
  · exact if_pos ⟨Or.inl rfl, hx⟩
  · exact if_pos ⟨Or.inr rfl, hx⟩
  · cases h
theorem sx_c21_ok {l : List sx_S} (hq : pq_look (pq_cd S.fr.M) S.fr.pc = some (pc0, 21, nx, i, a, v, t)) (h : sx_c21 P S nx a = some l) : sx_Goes P w0 S l := by
  intro p Kc ls st w m
  unfold sx_c21 at h
  split at h
  · rename_i e r rs hs
    have hm := m.stm
    have hf := m.flt.2
    rw [hs] at hm hf
    match st, hm with
    | .int x :: .ref r2 :: st, hm =>
      have e0 : r2 = r := hm.2.1
      subst e0
      have hx : x.toInt = sx_ev p e := hm.1
      have hle : sx_lt S.n e := hf _ List.mem_cons_self
      have hf2 : ∀ v ∈ rs, sx_vlt S.n v := fun v hv => hf v (List.mem_cons_of_mem _ (List.mem_cons_of_mem _ hv))
      have hrow : ∀ c z, w[r2]? = some c → pq_ald c x (a.headD 9) = some z → ∀ Post, sx_Ok Post S.k Kc S.fr.M nx ls (z :: st) w → sx_Ok Post S.k Kc S.fr.M S.fr.pc ls (.int x :: .ref r2 :: st) w := fun c z h1 h2 Post => sx_row hq (fun call f => by
        show (match w[r2]? with
          | some c => match pq_ald c x (a.headD 9) with
            | some z => _
            | none => none
          | none => none) = _
        rw [h1]
        show (match pq_ald c x (a.headD 9) with
            | some z => _
            | none => none) = _
        rw [h2])
      have known : ∀ z c y, sx_of S.O r2 e = some z → w[r2]? = some c → pq_ald c x (a.headD 9) = some y → sx_wc c x.toNatClampNeg = some y → ((x.toNatClampNeg : Nat) : Int) = x.toInt → ∃ S' ∈ [sx_to S nx (z :: rs)], ∃ Kc' ls' st' w', sx_Nx P.T P.A w0 p S.n S' Kc' ls' st' w' ∧ ∀ Post, sx_Ok Post S'.k Kc' S'.fr.M S'.fr.pc ls' st' w' → sx_Ok Post S.k Kc S.fr.M S.fr.pc ls (.int x :: .ref r2 :: st) w := by
        intro z c y hz hc ha hy hn
        have hmem := sx_of_mem hz
        obtain ⟨i2, e1, x2, e2, e3⟩ := m.ook _ hmem
        have e1 : (i2 : Int) = sx_ev p e := e1
        have e1 : i2 = x.toNatClampNeg := Int.ofNat.inj (show (i2 : Int) = (x.toNatClampNeg : Int) by omega)
        subst e1
        have e2 : sx_wg w r2 x.toNatClampNeg = some x2 := e2
        rw [sx_wg_of hc, hy] at e2
        cases e2
        exact ⟨_, List.mem_singleton.mpr rfl, Kc, ls, y :: st, w, ⟨p, fun _ _ => rfl, Nat.le_refl _, sx_to_ok m (sx_memc (m.olt _ hmem).2 hf2) ⟨e3, hm.2.2⟩⟩, hrow c y hc ha⟩
      split at h
      · rename_i ty n gs hT
        obtain ⟨f, hw, hg⟩ := sx_arr m.typ hT
        cases hb : sx_tyc ty (a.headD 9) && sx_inx S.E S.C e 0 ((n : Int) - 1) with
        | false => rw [hb] at h; cases h
        | true =>
          rw [hb] at h
          rw [Bool.and_eq_true] at hb
          have hin := sx_inx_ok m.sat m.fok hb.2
          rw [← hx] at hin
          obtain ⟨q1, q2, q3⟩ := sx_pin hin
          have hald := sx_ald_ok (f := f) hb.1 q1
          have hwc : sx_wc (.inl (ty, n, .inl f)) x.toNatClampNeg = some (.int (f x.toNatClampNeg)) := if_pos q3
          have h : (match sx_of S.O r2 e with
            | some z => some [sx_to S nx (z :: rs)]
            | none => some [sx_pshO S nx rs r2 e (.inr (false, (sx_rg S.E S.C e gs).1, (sx_rg S.E S.C e gs).2))]) = some l := h
          split at h
          · rename_i z hz
            cases h
            exact known z _ _ hz hw hald hwc q2
          · cases h
            obtain ⟨e1, e2, e3⟩ := sx_pshO_k S nx rs r2 e (.inr (false, (sx_rg S.E S.C e gs).1, (sx_rg S.E S.C e gs).2))
            have hrg := sx_rg_ok m.sat m.fok (e := e) (f := f) (i := x.toNatClampNeg) (by rw [q2, hx]) hg
            refine ⟨_, List.mem_singleton.mpr rfl, Kc, ls, .int (f x.toNatClampNeg) :: st, w, sx_pshO_ok (q := .inr (false, (sx_rg S.E S.C e gs).1, (sx_rg S.E S.C e gs).2)) m hf2 hm.2.2 trivial ⟨_, rfl, hrg.1, hrg.2⟩ hle (by rw [q2, hx]) (by rw [sx_wg_of hw]; exact hwc), ?_⟩
            rw [e1, e2, e3]
            exact hrow _ _ hw hald
      · rename_i n lo hi hT
        obtain ⟨f, hw, hfb⟩ := sx_arrL m.typ hT
        cases hb : Nat.beq (a.headD 9) 1 && sx_inx S.E S.C e 0 ((n : Int) - 1) with
        | false => rw [hb] at h; cases h
        | true =>
          rw [hb] at h
          rw [Bool.and_eq_true] at hb
          have hin := sx_inx_ok m.sat m.fok hb.2
          rw [← hx] at hin
          obtain ⟨q1, q2, q3⟩ := sx_pin hin
          have hald : pq_ald (.inl (.long, n, .inr f)) x (a.headD 9) = some (.long (f x.toNatClampNeg)) := by
            rw [Nat.eq_of_beq_eq_true hb.1]
            exact if_pos ⟨rfl, q1⟩
          have hwc : sx_wc (.inl (.long, n, .inr f)) x.toNatClampNeg = some (.long (f x.toNatClampNeg)) := if_pos q3
          have h : (match sx_of S.O r2 e with
            | some z => some [sx_to S nx (z :: rs)]
            | none => some [sx_pshO S nx rs r2 e (.inr (true, lo, hi))]) = some l := h
          split at h
          · rename_i z hz
            cases h
            exact known z _ _ hz hw hald hwc q2
          · cases h
            obtain ⟨e1, e2, e3⟩ := sx_pshO_k S nx rs r2 e (.inr (true, lo, hi))
            refine ⟨_, List.mem_singleton.mpr rfl, Kc, ls, .long (f x.toNatClampNeg) :: st, w, sx_pshO_ok (q := .inr (true, lo, hi)) m hf2 hm.2.2 trivial ⟨_, rfl, (hfb _).1, (hfb _).2⟩ hle (by rw [q2, hx]) (by rw [sx_wg_of hw]; exact hwc), ?_⟩
            rw [e1, e2, e3]
            exact hrow _ _ hw hald
      · cases h
  · cases h
/-- is a value as a place of this type holds it -/
noncomputable def sx_nf (E : sx_E) (C : List sx_F) (ty : FieldType) (c : Nat) (e : sx_F) : Bool := match ty, c with
  | .int, 0 => true
  | .byte, 2 => sx_in E C e (-128) 127
  | .boolean, 2 => sx_in E C e 0 1
  | _, _ => false
theorem sx_nar_b {y : Int32} (h : -128 ≤ y.toInt ∧ y.toInt ≤ 127) : vp_nar .byte y = y := by
  rw [vp_nar_byte]
  refine Int32.toInt_inj.mp ?_
  rw [Int8.toInt_toInt32, Int32.toInt_toInt8, Int.bmod_eq_of_le (by omega) (by omega)]
theorem sx_nar_z {y : Int32} (h : 0 ≤ y.toInt ∧ y.toInt ≤ 1) : vp_nar .boolean y = y := by
  rcases sx_01 h with e | e <;> rw [e] <;> rfl
theorem sx_ast_ok {p : Nat → Int} {E : sx_E} {C : List sx_F} (hE : sx_Sat p E) (hC : sx_Fok p C) {ty : FieldType} {n : Nat} {f : Nat → Int32} {c : Nat} {x y : Int32} {e : sx_F} (h : sx_nf E C ty c e = true) (hy : y.toInt = sx_ev p e) (hx : pq_in x n = true) : pq_ast (.inl (ty, n, .inl f)) x (.int y) c = some (.inl (ty, n, .inl (upd f x.toNatClampNeg y))) := by
  unfold sx_nf at h
  split at h
  · exact if_pos ⟨rfl, hx⟩
  · show (if (FieldType.byte = .byte ∨ FieldType.byte = .boolean) ∧ pq_in x n = true then (some (Sum.inl (FieldType.byte, n, Sum.inl (upd f x.toNatClampNeg (vp_nar .byte y)))) : Option pq_C) else none) = _
    rw [if_pos ⟨Or.inl rfl, hx⟩, sx_nar_b (by rw [hy]; exact sx_in_ok hE hC h)]
  · show (if (FieldType.boolean = .byte ∨ FieldType.boolean = .boolean) ∧ pq_in x n = true then (some (Sum.inl (FieldType.boolean, n, Sum.inl (upd f x.toNatClampNeg (vp_nar .boolean y)))) : Option pq_C) else none) = _
    rw [if_pos ⟨Or.inr rfl, hx⟩, sx_nar_z (by rw [hy]; exact sx_in_ok hE hC h)]
  · cases h
noncomputable def sx_c22 (P : sx_P) (S : sx_S) (nx : Nat) (a : List Nat) : Option (List sx_S) := match S.fr.st with
  | z :: .inl (.inl e) :: .inr (.inr r) :: st => bif Nat.ble pq_E r && sx_alw P.A S.E S.C r e then (match P.T[r]?, z with
    | some (.inr (.inl (ty, n, gs))), .inl (.inl y) => bif sx_nf S.E S.C ty (a.headD 9) y && sx_inx S.E S.C e 0 ((n : Int) - 1) && sx_gw S.E S.C e y gs then some [((sx_to S nx st).n, (sx_to S nx st).E, (sx_to S nx st).C, (r, e, z) :: sx_keep S.E r e S.O, (sx_to S nx st).k, (sx_to S nx st).fr, (sx_to S nx st).K)] else none
    | some (.inr (.inr (.inl (n, lo, hi)))), .inl (.inr y) => bif Nat.beq (a.headD 9) 1 && sx_inx S.E S.C e 0 ((n : Int) - 1) && sx_in S.E S.C y lo hi then some [((sx_to S nx st).n, (sx_to S nx st).E, (sx_to S nx st).C, (r, e, z) :: sx_keep S.E r e S.O, (sx_to S nx st).k, (sx_to S nx st).fr, (sx_to S nx st).K)] else none
    | _, _ => none) else none
  | _ => none
/-- what a write at one place must bring -/
theorem sx_wr {r ix : Nat} {c1 : pq_C} {x : Value} {z : sx_V} {e : sx_F} {p : Nat → Int} {Kc : List sx_cf} {ls : pq_L} {st st2 : List Value} {w : pq_W} {rs : List sx_V} (m : sx_Mt P.T P.A w0 p S Kc ls st w) (hr : r < w.length) (hty : sx_Ty P.T (w.set r c1)) (hc : ∀ i3, sx_wc c1 i3 = if i3 = ix then some x else sx_wg w r i3) (hi : (ix : Int) = sx_ev p e) (he : sx_lt S.n e) (hz : sx_vlt S.n z) (hd : sx_d p z x) (hA : sx_InA P.A r ix) (hf : ∀ v ∈ rs, sx_vlt S.n v) (hm : sx_sm p rs st2) : sx_Mt P.T P.A w0 p ((sx_to S nx rs).n, (sx_to S nx rs).E, (sx_to S nx rs).C, (r, e, z) :: sx_keep S.E r e S.O, (sx_to S nx rs).k, (sx_to S nx rs).fr, (sx_to S nx rs).K) Kc ls st2 (w.set r c1) := by
  have hwg : ∀ r3 i3, sx_wg (w.set r c1) r3 i3 = if r3 = r ∧ i3 = ix then some x else sx_wg w r3 i3 := by
    intro r3 i3
    rw [sx_wg_set hr]
    by_cases e : r = r3
    · subst e
      rw [if_pos rfl, hc]
      by_cases e2 : i3 = ix
      · rw [if_pos e2, if_pos ⟨rfl, e2⟩]
      · rw [if_neg e2, if_neg (fun z => e2 z.2)]
    · rw [if_neg e, if_neg (fun z => e z.1.symm)]
  have m2 := sx_to_ok (nx := nx) m hf hm
  refine (sx_mkMt (sat := m2.sat) (fok := m2.fok) (elt := m2.elt) (clt := m2.clt) (olt := ?_) (flt := m2.flt) (klt := m2.klt) (ook := ?_) (typ := hty) (frm := ?_) (lsm := m2.lsm) (stm := m2.stm) (ksm := m2.ksm) (tbm := m2.tbm))
  · intro q hq2
    cases List.mem_cons.mp hq2 with
    | inl e => rw [e]; exact ⟨he, hz⟩
    | inr e => exact sx_keep_lt m.olt q e
  · intro q hq2
    cases List.mem_cons.mp hq2 with
    | inl e => rw [e]; exact ⟨ix, hi, x, by rw [hwg, if_pos ⟨rfl, rfl⟩], hd⟩
    | inr e =>
      refine sx_keep_ok m.sat hi m.ook (fun r3 i3 hn => ?_) q e
      rw [hwg, if_neg hn]
  · intro r3 i3 hn
    rw [hwg, if_neg (fun z => hn (by rw [z.1, z.2]; exact hA))]
    exact m.frm r3 i3 hn
theorem sx_c22_ok {l : List sx_S} (hq : pq_look (pq_cd S.fr.M) S.fr.pc = some (pc0, 22, nx, i, a, v, t)) (h : sx_c22 P S nx a = some l) : sx_Goes P w0 S l := by
  intro p Kc ls st w m
  unfold sx_c22 at h
  split at h
  · rename_i z e r rs hs
    have hm := m.stm
    have hf := m.flt.2
    rw [hs] at hm hf
    match st, hm with
    | cz :: .int x :: .ref r2 :: st, hm =>
      have e0 : r2 = r := hm.2.2.1
      subst e0
      have hx : x.toInt = sx_ev p e := hm.2.1
      have hle : sx_lt S.n e := hf _ (List.mem_cons_of_mem _ List.mem_cons_self)
      have hf2 : ∀ v ∈ rs, sx_vlt S.n v := fun v hv => hf v (List.mem_cons_of_mem _ (List.mem_cons_of_mem _ (List.mem_cons_of_mem _ hv)))
      cases hb0 : Nat.ble pq_E r2 && sx_alw P.A S.E S.C r2 e with
      | false => rw [hb0] at h; cases h
      | true =>
        rw [hb0] at h
        rw [Bool.and_eq_true] at hb0
        have hrow : ∀ c c1, w[r2]? = some c → pq_ast c x cz (a.headD 9) = some c1 → ∀ Post, sx_Ok Post S.k Kc S.fr.M nx ls st (w.set r2 c1) → sx_Ok Post S.k Kc S.fr.M S.fr.pc ls (cz :: .int x :: .ref r2 :: st) w := fun c c1 h1 h2 Post => sx_row hq (fun call f => by
          show (match w[r2]? with
            | some c => match pq_ast c x cz (a.headD 9) with
              | some c1 => bif Nat.ble pq_E r2 then _ else none
              | none => none
            | none => none) = _
          rw [h1]
          show (match pq_ast c x cz (a.headD 9) with
              | some c1 => bif Nat.ble pq_E r2 then _ else none
              | none => none) = _
          rw [h2]
          show (bif Nat.ble pq_E r2 then _ else none) = _
          rw [hb0.1]
          rfl)
        rw [cond_true] at h
        split at h
        · rename_i ty n gs y hT hmx
          obtain ⟨f, hw, hg⟩ := sx_arr m.typ hT
          have hr2 : r2 < w.length := (List.getElem?_eq_some_iff.mp hw).1
          cases hb : sx_nf S.E S.C ty (a.headD 9) y && sx_inx S.E S.C e 0 ((n : Int) - 1) && sx_gw S.E S.C e y gs with
          | false => rw [hb] at h; cases h
          | true =>
            rw [hb] at h
            cases h
            rw [Bool.and_eq_true, Bool.and_eq_true] at hb
            have hin := sx_inx_ok m.sat m.fok hb.1.2
            rw [← hx] at hin
            obtain ⟨q1, q2, q3⟩ := sx_pin hin
            have hd0 := hm.1
            match cz, hd0 with
            | .int yy, hd0 =>
              have hy : yy.toInt = sx_ev p y := hd0
              have hast := sx_ast_ok m.sat m.fok (f := f) hb.1.1 hy q1
              have hi : ((x.toNatClampNeg : Nat) : Int) = sx_ev p e := by rw [q2, hx]
              have hty := sx_Ty_set m.typ hT (c := .inl (ty, n, .inl (upd f x.toNatClampNeg yy))) ⟨rfl, rfl, sx_gw_ok m.sat m.fok hi hy hb.2 hg⟩
              refine ⟨_, List.mem_singleton.mpr rfl, Kc, ls, st, w.set r2 (.inl (ty, n, .inl (upd f x.toNatClampNeg yy))), ⟨p, fun _ _ => rfl, Nat.le_refl _, sx_wr m hr2 hty (x := .int yy) (ix := x.toNatClampNeg) (fun i3 => ?_) hi hle (hf _ List.mem_cons_self) hd0 (sx_alw_ok m.sat m.fok hb0.2 hi) hf2 hm.2.2.2⟩, hrow _ _ hw hast⟩
              rw [sx_wg_of hw]
              show (if i3 < n then some (Value.int (upd f x.toNatClampNeg yy i3)) else none) = if i3 = x.toNatClampNeg then some (.int yy) else (if i3 < n then some (Value.int (f i3)) else none)
              by_cases e3 : i3 = x.toNatClampNeg
              · rw [if_pos (by omega), if_pos e3]
                unfold upd
                rw [if_pos e3]
              · rw [if_neg e3]
                unfold upd
                rw [if_neg e3]
        · rename_i n lo hi yl hT hmx
          obtain ⟨f, hw, hfb⟩ := sx_arrL m.typ hT
          have hr2 : r2 < w.length := (List.getElem?_eq_some_iff.mp hw).1
          cases hb : Nat.beq (a.headD 9) 1 && sx_inx S.E S.C e 0 ((n : Int) - 1) && sx_in S.E S.C yl lo hi with
          | false => rw [hb] at h; cases h
          | true =>
            rw [hb] at h
            cases h
            rw [Bool.and_eq_true, Bool.and_eq_true] at hb
            have hyb := sx_in_ok m.sat m.fok hb.2
            have hin := sx_inx_ok m.sat m.fok hb.1.2
            rw [← hx] at hin
            obtain ⟨q1, q2, q3⟩ := sx_pin hin
            have hd0 := hm.1
            match cz, hd0 with
            | .long yy, hd0 =>
              have hast : pq_ast (.inl (.long, n, .inr f)) x (.long yy) (a.headD 9) = some (.inl (.long, n, .inr (vp_updL f x.toNatClampNeg yy))) := by
                rw [Nat.eq_of_beq_eq_true hb.1.1]
                exact if_pos ⟨rfl, q1⟩
              have hi : ((x.toNatClampNeg : Nat) : Int) = sx_ev p e := by rw [q2, hx]
              have hty := sx_Ty_set m.typ hT (c := .inl (.long, n, .inr (vp_updL f x.toNatClampNeg yy))) ⟨rfl, rfl, fun i3 => by
                have hyy : yy.toInt = sx_ev p yl := hd0
                unfold vp_updL
                split
                · rw [hyy]; exact hyb
                · exact hfb i3⟩
              refine ⟨_, List.mem_singleton.mpr rfl, Kc, ls, st, w.set r2 (.inl (.long, n, .inr (vp_updL f x.toNatClampNeg yy))), ⟨p, fun _ _ => rfl, Nat.le_refl _, sx_wr m hr2 hty (x := .long yy) (ix := x.toNatClampNeg) (fun i3 => ?_) hi hle (hf _ List.mem_cons_self) hd0 (sx_alw_ok m.sat m.fok hb0.2 hi) hf2 hm.2.2.2⟩, hrow _ _ hw hast⟩
              rw [sx_wg_of hw]
              show (if i3 < n then some (Value.long (vp_updL f x.toNatClampNeg yy i3)) else none) = if i3 = x.toNatClampNeg then some (.long yy) else (if i3 < n then some (Value.long (f i3)) else none)
              by_cases e3 : i3 = x.toNatClampNeg
              · rw [if_pos (by omega), if_pos e3]
                unfold vp_updL
                rw [if_pos e3]
              · rw [if_neg e3]
                unfold vp_updL
                rw [if_neg e3]
        · cases h
  · cases h
noncomputable def sx_c23 (P : sx_P) (S : sx_S) (nx : Nat) : Option (List sx_S) := match S.fr.st with
  | .inr (.inr r) :: st => match P.T[r]? with
    | some (.inr (.inl (_, n, _))) => bif Nat.blt n 2147483648 then some [sx_to S nx (.inl (.inl (sx_k n)) :: st)] else none
    | _ => none
  | _ => none
theorem sx_c23_ok {l : List sx_S} (hq : pq_look (pq_cd S.fr.M) S.fr.pc = some (pc0, 23, nx, i, a, v, t)) (h : sx_c23 P S nx = some l) : sx_Goes P w0 S l := by
  intro p Kc ls st w m
  unfold sx_c23 at h
  split at h
  · rename_i r rs hs
    have hm := m.stm
    have hf := m.flt.2
    rw [hs] at hm hf
    match st, hm with
    | .ref r2 :: st, hm =>
      have e0 : r2 = r := hm.1
      subst e0
      split at h
      · rename_i ty n gs hT
        obtain ⟨f, hw, hg⟩ := sx_arr m.typ hT
        cases hb : Nat.blt n 2147483648 with
        | false => rw [hb] at h; cases h
        | true =>
          rw [hb] at h
          cases h
          have hn : n < 2 ^ 31 := Nat.le_of_ble_eq_true hb
          refine ⟨_, List.mem_singleton.mpr rfl, Kc, ls, .int (Int32.ofNat n) :: st, w, ⟨p, fun _ _ => rfl, Nat.le_refl _, sx_to_ok m (sx_memc (sx_k_lt _ _) (fun v hv => hf v (List.mem_cons_of_mem _ hv))) ⟨?_, hm.2⟩⟩, fun Post => sx_row hq (fun call f => ?_)⟩
          · show (Int32.ofNat n).toInt = sx_ev p (sx_k n)
            rw [sx_k_ev]
            exact nI_toInt hn
          · show (match w[r2]? with
              | some c => match pq_alen c with
                | some n => _
                | none => none
              | none => none) = _
            rw [hw]
            rfl
      · cases h
  · cases h
end SXE
/-! symbols that can be but one number -/
noncomputable def sx_nrl (E : sx_E) : List (Nat × Int) → Int × List (Nat × Int)
  | [] => (0, [])
  | q :: r => match sx_get E q.1 with
    | some i => bif sx_ieq i.1 i.2 then (q.2 * i.1 + (sx_nrl E r).1, (sx_nrl E r).2) else ((sx_nrl E r).1, q :: (sx_nrl E r).2)
    | none => ((sx_nrl E r).1, q :: (sx_nrl E r).2)
noncomputable def sx_nrm (E : sx_E) (e : sx_F) : sx_F := (e.1 + (sx_nrl E e.2).1, (sx_nrl E e.2).2)
theorem sx_nrl_ok {p : Nat → Int} {E : sx_E} (hE : sx_Sat p E) : ∀ l, (sx_nrl E l).1 + sx_ts p (sx_nrl E l).2 = sx_ts p l
  | [] => rfl
  | q :: r => by
    have ih := sx_nrl_ok hE r
    show _ = q.2 * p q.1 + sx_ts p r
    unfold sx_nrl
    cases h : sx_get E q.1 with
    | none =>
      show (sx_nrl E r).1 + (q.2 * p q.1 + sx_ts p (sx_nrl E r).2) = _
      omega
    | some i =>
      have hi := sx_get_ok hE h
      show (bif sx_ieq i.1 i.2 then (q.2 * i.1 + (sx_nrl E r).1, (sx_nrl E r).2) else ((sx_nrl E r).1, q :: (sx_nrl E r).2)).1 + sx_ts p (bif sx_ieq i.1 i.2 then (q.2 * i.1 + (sx_nrl E r).1, (sx_nrl E r).2) else ((sx_nrl E r).1, q :: (sx_nrl E r).2)).2 = _
      cases hb : sx_ieq i.1 i.2 with
      | true =>
        have e1 := sx_ieq_ok hb
        have e2 : p q.1 = i.1 := by omega
        show q.2 * i.1 + (sx_nrl E r).1 + sx_ts p (sx_nrl E r).2 = _
        rw [e2]
        omega
      | false =>
        show (sx_nrl E r).1 + (q.2 * p q.1 + sx_ts p (sx_nrl E r).2) = _
        omega
theorem sx_nrl_lt {n : Nat} {E : sx_E} : ∀ l : List (Nat × Int), (∀ q ∈ l, q.1 < n) → ∀ q ∈ (sx_nrl E l).2, q.1 < n
  | [], _, q, hq => by cases hq
  | a :: r, h, q, hq => by
    have ih := sx_nrl_lt (E := E) r (fun x hx => h x (List.mem_cons_of_mem _ hx))
    unfold sx_nrl at hq
    cases hg : sx_get E a.1 with
    | none =>
      rw [hg] at hq
      cases List.mem_cons.mp hq with
      | inl e => rw [e]; exact h a List.mem_cons_self
      | inr e => exact ih q e
    | some i =>
      rw [hg] at hq
      cases hb : sx_ieq i.1 i.2 with
      | true =>
        have hq : q ∈ (bif sx_ieq i.1 i.2 then (a.2 * i.1 + (sx_nrl E r).1, (sx_nrl E r).2) else ((sx_nrl E r).1, a :: (sx_nrl E r).2)).2 := hq
        rw [hb] at hq
        exact ih q hq
      | false =>
        have hq : q ∈ (bif sx_ieq i.1 i.2 then (a.2 * i.1 + (sx_nrl E r).1, (sx_nrl E r).2) else ((sx_nrl E r).1, a :: (sx_nrl E r).2)).2 := hq
        rw [hb] at hq
        cases List.mem_cons.mp hq with
        | inl e => rw [e]; exact h a List.mem_cons_self
        | inr e => exact ih q e
theorem sx_nrm_ok {p : Nat → Int} {E : sx_E} (hE : sx_Sat p E) (e : sx_F) : sx_ev p (sx_nrm E e) = sx_ev p e := by
  have := sx_nrl_ok hE e.2
  show e.1 + (sx_nrl E e.2).1 + sx_ts p (sx_nrl E e.2).2 = e.1 + sx_ts p e.2
  omega
noncomputable def sx_nrv (E : sx_E) : sx_V → sx_V
  | .inl (.inl e) => .inl (.inl (sx_nrm E e))
  | v => v
theorem sx_nrs_ok {p : Nat → Int} {E : sx_E} (hE : sx_Sat p E) : ∀ {a : List sx_V} {s : List Value}, sx_sm p a s → sx_sm p (a.map (sx_nrv E)) s
  | [], [], _ => trivial
  | a :: r, x :: s, h => by
    refine ⟨?_, sx_nrs_ok hE h.2⟩
    have h1 := h.1
    rcases a with (e | e) | (e | k)
    · match x, h1 with
      | .int y, h1 =>
        have h1 : y.toInt = sx_ev p e := h1
        show y.toInt = sx_ev p (sx_nrm E e)
        rw [sx_nrm_ok hE, h1]
    · exact h1
    · exact h1
    · exact h1
  | [], _ :: _, h => h.elim
  | _ :: _, [], h => h.elim
theorem sx_nrs_lt {n : Nat} {E : sx_E} {a : List sx_V} (h : ∀ v ∈ a, sx_vlt n v) : ∀ v ∈ a.map (sx_nrv E), sx_vlt n v := by
  intro v hv
  obtain ⟨u, hu, rfl⟩ := List.mem_map.mp hv
  have h1 := h u hu
  rcases u with (e | e) | (e | k)
  · exact sx_nrl_lt e.2 h1
  · exact h1
  · exact h1
  · exact h1
/-- the state with its stack told shorter -/
noncomputable def sx_nS (S : sx_S) : sx_S := sx_to S S.fr.pc (S.fr.st.map (sx_nrv S.E))
theorem sx_nS_goes {P : sx_P} {w0 : pq_W} {S : sx_S} {l : List sx_S} (h : sx_Goes P w0 (sx_nS S) l) : sx_Goes P w0 S l := fun p Kc ls st w m => h p Kc ls st w (sx_to_ok m (sx_nrs_lt m.flt.2) (sx_nrs_ok m.sat m.stm))
/-! arraycopy, Math, calls -/
theorem sx_bif {α : Type} {b : Bool} {x : Option α} {y : α} (h : (bif b then x else none) = some y) : b = true ∧ x = some y := by
  cases b with
  | true => exact ⟨rfl, h⟩
  | false => cases h
theorem sx_sm_len {p : Nat → Int} : ∀ {a : List sx_V} {st : List Value}, sx_sm p a st → st.length = a.length
  | [], [], _ => rfl
  | a :: r, x :: s, h => by rw [List.length_cons, List.length_cons, sx_sm_len h.2]
  | [], _ :: _, h => h.elim
  | _ :: _, [], h => h.elim
theorem sx_sm_take {p : Nat → Int} : ∀ {n : Nat} {a : List sx_V} {st : List Value}, sx_sm p a st → sx_sm p (a.take n) (st.take n) ∧ sx_sm p (a.drop n) (st.drop n)
  | 0, a, st, h => ⟨trivial, h⟩
  | n + 1, [], [], h => ⟨trivial, trivial⟩
  | n + 1, a :: r, x :: s, h => ⟨⟨h.1, (sx_sm_take h.2).1⟩, (sx_sm_take h.2).2⟩
  | n + 1, [], _ :: _, h => h.elim
  | n + 1, _ :: _, [], h => h.elim
theorem sx_sm_app {p : Nat → Int} : ∀ {a b : List sx_V} {s t : List Value}, sx_sm p a s → sx_sm p b t → sx_sm p (a ++ b) (s ++ t)
  | [], b, [], t, _, h => h
  | a :: r, b, x :: s, t, h, h2 => ⟨h.1, sx_sm_app h.2 h2⟩
  | [], _, _ :: _, _, h, _ => h.elim
  | _ :: _, _, [], _, h, _ => h.elim
theorem sx_sm_rev {p : Nat → Int} : ∀ {a : List sx_V} {s : List Value}, sx_sm p a s → sx_sm p a.reverse s.reverse
  | [], [], _ => trivial
  | a :: r, x :: s, h => by
    rw [List.reverse_cons, List.reverse_cons]
    exact sx_sm_app (sx_sm_rev h.2) ⟨h.1, trivial⟩
  | [], _ :: _, h => h.elim
  | _ :: _, [], h => h.elim
noncomputable def sx_ssum : List sx_V → Nat
  | [] => 0
  | v :: r => sx_cat v + sx_ssum r
theorem sx_ssum_ok {p : Nat → Int} : ∀ {a : List sx_V} {s : List Value}, sx_sm p a s → pq_sum s = sx_ssum a
  | [], [], _ => rfl
  | a :: r, x :: s, h => by
    show ((x :: s).map fun v => v.category).sum = _
    rw [List.map_cons, List.sum_cons, sx_d_cat h.1]
    show sx_cat a + pq_sum s = _
    rw [sx_ssum_ok h.2]
    rfl
  | [], _ :: _, h => h.elim
  | _ :: _, [], h => h.elim
noncomputable def sx_uni (n : Nat) (gs : List sx_G) : Int × Int := match gs with
  | (0, 1, m, 0, 0, lo, hi) :: _ => if n ≤ m then (lo, hi) else (-sx_b31, sx_b31 - 1)
  | _ => (-sx_b31, sx_b31 - 1)
theorem sx_uni_ok {n : Nat} {gs : List sx_G} {f : Nat → Int32} (h : ∀ g ∈ gs, sx_gok g f) {k : Nat} (hk : k < n) : (sx_uni n gs).1 ≤ (f k).toInt ∧ (f k).toInt ≤ (sx_uni n gs).2 := by
  unfold sx_uni
  split
  · rename_i m lo hi r
    split
    · have := h _ List.mem_cons_self k (by show k < m; omega) 0 (Nat.le_refl _) (Nat.le_refl _)
      have e : 0 + 1 * k + 0 = k := by omega
      have this : lo ≤ (f (0 + 1 * k + 0)).toInt ∧ (f (0 + 1 * k + 0)).toInt ≤ hi := this
      rw [e] at this
      exact this
    · exact sx_i32 _
  · exact sx_i32 _
noncomputable def sx_cty (ty : FieldType) : Bool := match ty with
  | .int | .byte | .boolean => true
  | _ => false
noncomputable def sx_tyq (a b : FieldType) : Bool := match a, b with
  | .int, .int | .byte, .byte | .boolean, .boolean => true
  | _, _ => false
theorem sx_tyq_ok {a b : FieldType} (h : sx_tyq a b = true) : (a = .int ∨ a = .byte ∨ a = .boolean) ∧ b = a := by
  unfold sx_tyq at h
  split at h
  · exact ⟨Or.inl rfl, rfl⟩
  · exact ⟨Or.inr (Or.inl rfl), rfl⟩
  · exact ⟨Or.inr (Or.inr rfl), rfl⟩
  · cases h
section SXF
variable {P : sx_P} {w0 : pq_W} {S : sx_S} {pc0 nx t : Nat} {i : Instr} {a : List Nat} {v : Value}
noncomputable def sx_cst (e : sx_F) : Bool := e.2.isEmpty
/-- what is known of the array that is copied from its start on -/
noncomputable def sx_cpO (O : sx_O) (r0 r1 : Nat) (sp dp n : sx_F) : sx_O := bif sx_ieq sp.1 0 && sx_cst sp && sx_ieq dp.1 0 && sx_cst dp && sx_cst n then (O.filter fun q => Nat.beq q.1 r0 && sx_cst q.2.1 && sx_le 0 q.2.1.1 && sx_le (q.2.1.1 + 1) n.1).map (fun q => (r1, q.2)) else []
theorem sx_cst_ev {p : Nat → Int} {e : sx_F} (h : sx_cst e = true) : sx_ev p e = e.1 := by
  obtain ⟨c, l⟩ := e
  have h : l = [] := List.isEmpty_iff.mp h
  subst h
  exact Int.add_zero c
theorem sx_cpO_mem {O : sx_O} {r0 r1 : Nat} {sp dp n : sx_F} {q : Nat × sx_F × sx_V} (p : Nat → Int) (h : q ∈ sx_cpO O r0 r1 sp dp n) : sx_ev p sp = 0 ∧ sx_ev p dp = 0 ∧ q.1 = r1 ∧ (r0, q.2) ∈ O ∧ 0 ≤ sx_ev p q.2.1 ∧ sx_ev p q.2.1 < sx_ev p n := by
  unfold sx_cpO at h
  cases hb : (sx_ieq sp.1 0 && sx_cst sp && sx_ieq dp.1 0 && sx_cst dp && sx_cst n) with
  | false =>
    rw [hb] at h
    cases h
  | true =>
    rw [hb] at h
    simp only [cond_true] at h
    simp only [Bool.and_eq_true] at hb
    obtain ⟨⟨⟨⟨b1, b2⟩, b3⟩, b4⟩, b5⟩ := hb
    obtain ⟨q0, h1, rfl⟩ := List.mem_map.mp h
    obtain ⟨h2, h3⟩ := List.mem_filter.mp h1
    simp only [Bool.and_eq_true] at h3
    obtain ⟨⟨⟨d1, d2⟩, d3⟩, d4⟩ := h3
    have d1 : q0.1 = r0 := Nat.eq_of_beq_eq_true d1
    have d3 : 0 ≤ q0.2.1.1 := sx_leT d3
    have d4 : q0.2.1.1 + 1 ≤ n.1 := sx_leT d4
    refine ⟨by rw [sx_cst_ev b2]; exact sx_ieq_ok b1, by rw [sx_cst_ev b4]; exact sx_ieq_ok b3, rfl, by rw [← d1]; exact h2, ?_, ?_⟩
    · show 0 ≤ sx_ev p q0.2.1
      rw [sx_cst_ev d2]
      exact d3
    · show sx_ev p q0.2.1 < sx_ev p n
      rw [sx_cst_ev d2, sx_cst_ev b5]
      omega
noncomputable def sx_c27 (P : sx_P) (S : sx_S) (nx : Nat) : Option (List sx_S) := match S.fr.st with
  | .inl (.inl n) :: .inl (.inl dp) :: .inr (.inr r1) :: .inl (.inl sp) :: .inr (.inr r0) :: st => match P.T[r0]?, P.T[r1]? with
    | some (.inr (.inl (ty, n0, g0))), some (.inr (.inl (ty1, n1, g1))) => bif sx_tyq ty ty1 && sx_lo S.E S.C n 0 && sx_lo S.E S.C dp 0 && sx_lo S.E S.C sp 0 && sx_hi S.E S.C (sx_add sp n) n0 && sx_hi S.E S.C (sx_add dp n) n1
        && (g1.all fun g => sx_le g.2.2.2.2.2.1 (sx_uni n0 g0).1 && sx_le (sx_uni n0 g0).2 g.2.2.2.2.2.2) && Nat.ble pq_E r0 && Nat.ble pq_E r1 && Nat.ble (sx_ssum st) 8 && (P.A.any fun q => Nat.beq q.1 r1 && sx_le q.2.1 0 && sx_le ((n1 : Int) - 1) q.2.2)
      then some [((sx_to S nx st).n, (sx_to S nx st).E, (sx_to S nx st).C, (S.O.filter fun q => !(Nat.beq q.1 r1)) ++ sx_cpO S.O r0 r1 sp dp n, (sx_to S nx st).k, (sx_to S nx st).fr, (sx_to S nx st).K)] else none
    | _, _ => none
  | _ => none
theorem sx_nneg {x : Int32} (h : 0 ≤ x.toInt) : ¬ x < 0 ∧ ((x.toNatClampNeg : Nat) : Int) = x.toInt := by
  refine ⟨fun g => ?_, Int.toNat_of_nonneg h⟩
  have := Int32.lt_iff_toInt_lt.mp g
  rw [show (0 : Int32).toInt = 0 from rfl] at this
  omega
theorem sx_c27_ok {l : List sx_S} (hq : pq_look (pq_cd S.fr.M) S.fr.pc = some (pc0, 27, nx, i, a, v, t)) (h : sx_c27 P S nx = some l) : sx_Goes P w0 S l := by
  intro p Kc ls st w m
  unfold sx_c27 at h
  split at h
  · rename_i n dp r1 sp r0 rs hs
    have hm := m.stm
    have hf := m.flt.2
    rw [hs] at hm hf
    match st, hm with
    | .int cn :: .int cdp :: .ref q1 :: .int csp :: .ref q0 :: st, hm =>
      have e1 : q1 = r1 := hm.2.2.1
      have e0 : q0 = r0 := hm.2.2.2.2.1
      subst e1
      subst e0
      have hn : cn.toInt = sx_ev p n := hm.1
      have hdp : cdp.toInt = sx_ev p dp := hm.2.1
      have hsp : csp.toInt = sx_ev p sp := hm.2.2.2.1
      have hf2 : ∀ v ∈ rs, sx_vlt S.n v := fun v hv => hf v (List.mem_cons_of_mem _ (List.mem_cons_of_mem _ (List.mem_cons_of_mem _ (List.mem_cons_of_mem _ (List.mem_cons_of_mem _ hv)))))
      split at h
      · rename_i ty n0 g0 ty1 n1 g1 hT0 hT1
        obtain ⟨f0, hw0, hg0⟩ := sx_arr m.typ hT0
        obtain ⟨f1, hw1, hg1⟩ := sx_arr m.typ hT1
        have hr1 : q1 < w.length := (List.getElem?_eq_some_iff.mp hw1).1
        obtain ⟨hb, h⟩ := sx_bif h
        cases h
        simp only [Bool.and_eq_true] at hb
        obtain ⟨⟨⟨⟨⟨⟨⟨⟨⟨⟨b1, b2⟩, b3⟩, b4⟩, b5⟩, b6⟩, b7⟩, b8⟩, b9⟩, b10⟩, b11⟩ := hb
        obtain ⟨ht, e⟩ := sx_tyq_ok b1
        subst e
        have c2 := sx_lo_ok m.sat m.fok b2
        have c3 := sx_lo_ok m.sat m.fok b3
        have c4 := sx_lo_ok m.sat m.fok b4
        have c5 := sx_hi_ok m.sat m.fok b5
        have c6 := sx_hi_ok m.sat m.fok b6
        rw [sx_add_ev] at c5 c6
        rw [← hn] at c2 c5 c6
        rw [← hdp] at c3 c6
        rw [← hsp] at c4 c5
        obtain ⟨x2, y2⟩ := sx_nneg c2
        obtain ⟨x3, y3⟩ := sx_nneg c3
        obtain ⟨x4, y4⟩ := sx_nneg c4
        have hcp : pq_cp (.inl (ty1, n0, .inl f0)) (.inl (ty1, n1, .inl f1)) csp cdp cn = some (.inl (ty1, n1, .inl (va_cpy f0 f1 csp.toNatClampNeg cdp.toNatClampNeg cn.toNatClampNeg))) := if_pos ⟨ht, rfl, x4, x3, x2, by omega, by omega⟩
        have hty : sx_Ty P.T (w.set q1 (.inl (ty1, n1, .inl (va_cpy f0 f1 csp.toNatClampNeg cdp.toNatClampNeg cn.toNatClampNeg)))) := by
          refine sx_Ty_set m.typ hT1 ⟨rfl, rfl, fun g hg k hk j h1 h2 => ?_⟩
          unfold va_cpy
          split
          · rename_i hc
            rw [List.all_eq_true] at b7
            have b7 := b7 g hg
            rw [Bool.and_eq_true] at b7
            have d1 : g.2.2.2.2.2.1 ≤ (sx_uni n0 g0).1 := sx_leT b7.1
            have d2 : (sx_uni n0 g0).2 ≤ g.2.2.2.2.2.2 := sx_leT b7.2
            have d3 := sx_uni_ok (n := n0) hg0 (k := csp.toNatClampNeg + (g.1 + g.2.1 * k + j - cdp.toNatClampNeg)) (by omega)
            omega
          · exact hg1 g hg k hk j h1 h2
        have hA : ∀ i3, i3 < n1 → sx_InA P.A q1 i3 := by
          intro i3 hi3
          rw [List.any_eq_true] at b11
          obtain ⟨q, hqA, hqb⟩ := b11
          simp only [Bool.and_eq_true] at hqb
          have d1 : q.2.1 ≤ 0 := sx_leT hqb.1.2
          have d2 : (n1 : Int) - 1 ≤ q.2.2 := sx_leT hqb.2
          exact ⟨q, hqA, Nat.eq_of_beq_eq_true hqb.1.1, by omega, by omega⟩
        have hwg : ∀ r3 i3, ¬ r3 = q1 → sx_wg (w.set q1 (.inl (ty1, n1, .inl (va_cpy f0 f1 csp.toNatClampNeg cdp.toNatClampNeg cn.toNatClampNeg)))) r3 i3 = sx_wg w r3 i3 := by
          intro r3 i3 hne
          rw [sx_wg_set hr1, if_neg (fun z => hne z.symm)]
        have m2 := sx_to_ok (nx := nx) m hf2 hm.2.2.2.2.2
        refine ⟨_, List.mem_singleton.mpr rfl, Kc, ls, st, _, ⟨p, fun _ _ => rfl, Nat.le_refl _, (sx_mkMt (sat := m2.sat) (fok := m2.fok) (elt := m2.elt) (clt := m2.clt) (olt := ?_) (flt := m2.flt) (klt := m2.klt) (ook := ?_) (typ := hty) (frm := ?_) (lsm := m2.lsm) (stm := m2.stm) (ksm := m2.ksm) (tbm := m2.tbm))⟩, fun Post => sx_row hq (fun call f => ?_)⟩
        · intro q hq2
          rcases List.mem_append.mp hq2 with hq2 | hq2
          · exact m.olt q (List.mem_filter.mp hq2).1
          · exact m.olt (q0, q.2) (sx_cpO_mem p hq2).2.2.2.1
        · intro q hq2
          rcases List.mem_append.mp hq2 with hq2 | hq2
          · obtain ⟨g1, g2⟩ := List.mem_filter.mp hq2
            obtain ⟨i2, k1, x, k2, k3⟩ := m.ook q g1
            exact ⟨i2, k1, x, by rw [hwg q.1 i2 (sx_nbeq g2)]; exact k2, k3⟩
          · obtain ⟨j1, j2, j3, j4, j5, j6⟩ := sx_cpO_mem p hq2
            obtain ⟨i2, k1, x, k2, k3⟩ := m.ook (q0, q.2) j4
            have k1 : (i2 : Int) = sx_ev p q.2.1 := k1
            have k2 : sx_wg w q0 i2 = some x := k2
            refine ⟨i2, k1, x, ?_, k3⟩
            rw [sx_wg_of hw0] at k2
            have k2 : (if i2 < n0 then some (Value.int (f0 i2)) else none) = some x := k2
            have hi0 : i2 < n0 := by omega
            rw [if_pos hi0] at k2
            rw [j3, sx_wg_set hr1, if_pos rfl]
            show (if i2 < n1 then some (Value.int (va_cpy f0 f1 csp.toNatClampNeg cdp.toNatClampNeg cn.toNatClampNeg i2)) else none) = some x
            rw [if_pos (by omega), ← k2]
            unfold va_cpy
            rw [if_pos (by omega), show csp.toNatClampNeg + (i2 - cdp.toNatClampNeg) = i2 by omega]
        · intro r3 i3 hn3
          by_cases e : r3 = q1
          · subst e
            rw [← m.frm r3 i3 hn3, sx_wg_set hr1, if_pos rfl, sx_wg_of hw1]
            have : ¬ i3 < n1 := fun z => hn3 (hA i3 z)
            show (if i3 < n1 then _ else none) = (if i3 < n1 then _ else none)
            rw [if_neg this, if_neg this]
          · rw [hwg r3 i3 e]
            exact m.frm r3 i3 hn3
        · show (match w[q0]?, w[q1]? with
            | some c0, some c1 => match pq_cp c0 c1 csp cdp cn with
              | some c2 => bif Nat.ble pq_E q0 && Nat.ble pq_E q1 && Nat.ble (pq_sum st) 8 then _ else none
              | none => none
            | _, _ => none) = _
          rw [hw0, hw1]
          show (match pq_cp (.inl (ty1, n0, .inl f0)) (.inl (ty1, n1, .inl f1)) csp cdp cn with
              | some c2 => bif Nat.ble pq_E q0 && Nat.ble pq_E q1 && Nat.ble (pq_sum st) 8 then _ else none
              | none => none) = _
          rw [hcp]
          show (bif Nat.ble pq_E q0 && Nat.ble pq_E q1 && Nat.ble (pq_sum st) 8 then _ else none) = _
          rw [sx_ssum_ok hm.2.2.2.2.2, b8, b9, b10]
          rfl
      · cases h
  · cases h
end SXF
/-! Math -/
/-- the greater (mx) or the less of two -/
noncomputable def sx_mm (isL mx : Bool) (E : sx_E) (C : List sx_F) (x y : sx_F) : sx_Q :=
  bif sx_hi E C (sx_sub x y) 0 then (bif isL then .inl (.inl (.inr (bif mx then y else x))) else .inl (.inl (.inl (bif mx then y else x))))
  else bif sx_lo E C (sx_sub x y) 0 then (bif isL then .inl (.inl (.inr (bif mx then x else y))) else .inl (.inl (.inl (bif mx then x else y))))
  else match sx_bd E x, sx_bd E y with
    | some j, some k => bif mx then sx_z isL (max j.1 k.1) (max j.2 k.2) else sx_z isL (min j.1 k.1) (min j.2 k.2)
    | _, _ => sx_zf isL
theorem sx_mm_lt {n : Nat} {L mx : Bool} {E : sx_E} {C : List sx_F} {x y : sx_F} (hx : sx_lt n x) (hy : sx_lt n y) : sx_Qlt n (sx_mm L mx E C x y) := by
  unfold sx_mm
  cases sx_hi E C (sx_sub x y) 0 with
  | true => cases L <;> cases mx <;> first | exact hx | exact hy
  | false =>
    cases sx_lo E C (sx_sub x y) 0 with
    | true => cases L <;> cases mx <;> first | exact hx | exact hy
    | false =>
      show sx_Qlt n (match sx_bd E x, sx_bd E y with
        | some j, some k => bif mx then sx_z L (max j.1 k.1) (max j.2 k.2) else sx_z L (min j.1 k.1) (min j.2 k.2)
        | _, _ => sx_zf L)
      cases sx_bd E x with
      | none => cases L <;> trivial
      | some j =>
        cases sx_bd E y with
        | none => cases L <;> trivial
        | some k => cases L <;> cases mx <;> trivial
theorem sx_mm_i {p : Nat → Int} {mx : Bool} {E : sx_E} {C : List sx_F} (hE : sx_Sat p E) (hC : sx_Fok p C) {x y : sx_F} {a b z : Int32} (ha : a.toInt = sx_ev p x) (hb : b.toInt = sx_ev p y) (hz : z.toInt = bif mx then max a.toInt b.toInt else min a.toInt b.toInt) : sx_Qok p (sx_mm false mx E C x y) (.int z) := by
  unfold sx_mm
  cases h1 : sx_hi E C (sx_sub x y) 0 with
  | true =>
    have h2 := sx_hi_ok hE hC h1
    rw [sx_sub_ev, ← ha, ← hb] at h2
    cases mx with
    | true =>
      show z.toInt = sx_ev p y
      rw [hz, ← hb]
      show max a.toInt b.toInt = b.toInt
      omega
    | false =>
      show z.toInt = sx_ev p x
      rw [hz, ← ha]
      show min a.toInt b.toInt = a.toInt
      omega
  | false =>
    cases h3 : sx_lo E C (sx_sub x y) 0 with
    | true =>
      have h2 := sx_lo_ok hE hC h3
      rw [sx_sub_ev, ← ha, ← hb] at h2
      cases mx with
      | true =>
        show z.toInt = sx_ev p x
        rw [hz, ← ha]
        show max a.toInt b.toInt = a.toInt
        omega
      | false =>
        show z.toInt = sx_ev p y
        rw [hz, ← hb]
        show min a.toInt b.toInt = b.toInt
        omega
    | false =>
      show sx_Qok p (match sx_bd E x, sx_bd E y with
        | some j, some k => bif mx then sx_z false (max j.1 k.1) (max j.2 k.2) else sx_z false (min j.1 k.1) (min j.2 k.2)
        | _, _ => sx_zf false) (.int z)
      cases g1 : sx_bd E x with
      | none => exact sx_full32 p z
      | some j =>
        cases g2 : sx_bd E y with
        | none => exact sx_full32 p z
        | some k =>
          have k1 := sx_bd_ok hE g1
          have k2 := sx_bd_ok hE g2
          rw [← ha] at k1
          rw [← hb] at k2
          cases mx with
          | true =>
            refine ⟨z, rfl, ?_, ?_⟩ <;> rw [hz] <;> simp only [cond_true, cond_false] <;> omega
          | false =>
            refine ⟨z, rfl, ?_, ?_⟩ <;> rw [hz] <;> simp only [cond_true, cond_false] <;> omega
theorem sx_mm_l {p : Nat → Int} {mx : Bool} {E : sx_E} {C : List sx_F} (hE : sx_Sat p E) (hC : sx_Fok p C) {x y : sx_F} {a b z : Int64} (ha : a.toInt = sx_ev p x) (hb : b.toInt = sx_ev p y) (hz : z.toInt = bif mx then max a.toInt b.toInt else min a.toInt b.toInt) : sx_Qok p (sx_mm true mx E C x y) (.long z) := by
  unfold sx_mm
  cases h1 : sx_hi E C (sx_sub x y) 0 with
  | true =>
    have h2 := sx_hi_ok hE hC h1
    rw [sx_sub_ev, ← ha, ← hb] at h2
    cases mx with
    | true =>
      show z.toInt = sx_ev p y
      rw [hz, ← hb]
      show max a.toInt b.toInt = b.toInt
      omega
    | false =>
      show z.toInt = sx_ev p x
      rw [hz, ← ha]
      show min a.toInt b.toInt = a.toInt
      omega
  | false =>
    cases h3 : sx_lo E C (sx_sub x y) 0 with
    | true =>
      have h2 := sx_lo_ok hE hC h3
      rw [sx_sub_ev, ← ha, ← hb] at h2
      cases mx with
      | true =>
        show z.toInt = sx_ev p x
        rw [hz, ← ha]
        show max a.toInt b.toInt = a.toInt
        omega
      | false =>
        show z.toInt = sx_ev p y
        rw [hz, ← hb]
        show min a.toInt b.toInt = b.toInt
        omega
    | false =>
      show sx_Qok p (match sx_bd E x, sx_bd E y with
        | some j, some k => bif mx then sx_z true (max j.1 k.1) (max j.2 k.2) else sx_z true (min j.1 k.1) (min j.2 k.2)
        | _, _ => sx_zf true) (.long z)
      cases g1 : sx_bd E x with
      | none => exact sx_full64 p z
      | some j =>
        cases g2 : sx_bd E y with
        | none => exact sx_full64 p z
        | some k =>
          have k1 := sx_bd_ok hE g1
          have k2 := sx_bd_ok hE g2
          rw [← ha] at k1
          rw [← hb] at k2
          cases mx with
          | true =>
            refine ⟨z, rfl, ?_, ?_⟩ <;> rw [hz] <;> simp only [cond_true, cond_false] <;> omega
          | false =>
            refine ⟨z, rfl, ?_, ?_⟩ <;> rw [hz] <;> simp only [cond_true, cond_false] <;> omega
noncomputable def sx_ab (E : sx_E) (C : List sx_F) (x : sx_F) : sx_Q := bif sx_lo E C x 0 then .inl (.inl (.inl x)) else match sx_bd E x with
  | some j => if -sx_b31 < j.1 then .inr (false, 0, (max (-j.1) j.2)) else sx_zf false
  | none => sx_zf false
theorem sx_ab_lt {n : Nat} {E : sx_E} {C : List sx_F} {x : sx_F} (hx : sx_lt n x) : sx_Qlt n (sx_ab E C x) := by
  unfold sx_ab
  cases sx_lo E C x 0 with
  | true => exact hx
  | false =>
    show sx_Qlt n (match sx_bd E x with
      | some j => if -sx_b31 < j.1 then .inr (false, 0, (max (-j.1) j.2)) else sx_zf false
      | none => sx_zf false)
    cases sx_bd E x with
    | none => trivial
    | some j =>
      show sx_Qlt n (if -sx_b31 < j.1 then .inr (false, 0, (max (-j.1) j.2)) else sx_zf false)
      split <;> trivial
theorem sx_ab_ok {p : Nat → Int} {E : sx_E} {C : List sx_F} (hE : sx_Sat p E) (hC : sx_Fok p C) {x : sx_F} {a : Int32} (ha : a.toInt = sx_ev p x) : sx_Qok p (sx_ab E C x) (.int (if 0 ≤ a then a else 0 - a)) := by
  have h0 : (0 ≤ a) ↔ 0 ≤ a.toInt := by
    rw [Int32.le_iff_toInt_le]
    rfl
  unfold sx_ab
  cases h1 : sx_lo E C x 0 with
  | true =>
    have h2 := sx_lo_ok hE hC h1
    show (if 0 ≤ a then a else 0 - a).toInt = sx_ev p x
    rw [if_pos (h0.mpr (by omega)), ha]
  | false =>
    show sx_Qok p (match sx_bd E x with
      | some j => if -sx_b31 < j.1 then .inr (false, 0, (max (-j.1) j.2)) else sx_zf false
      | none => sx_zf false) _
    cases g1 : sx_bd E x with
    | none => exact sx_full32 p _
    | some j =>
      have k1 := sx_bd_ok hE g1
      rw [← ha] at k1
      show sx_Qok p (if -sx_b31 < j.1 then .inr (false, 0, (max (-j.1) j.2)) else sx_zf false) _
      split
      · rename_i hj
        refine ⟨_, rfl, ?_⟩
        by_cases h : 0 ≤ a
        · rw [if_pos h]
          have := h0.mp h
          omega
        · rw [if_neg h]
          have hn : ¬ 0 ≤ a.toInt := fun z => h (h0.mpr z)
          rw [Int32.toInt_sub, show (0 : Int32).toInt = 0 from rfl, sx_bm32 (by omega) (by have := (sx_i32 a); omega)]
          omega
      · exact sx_full32 p _
noncomputable def sx_mq (E : sx_E) (C : List sx_F) (op : Nat) (st : List sx_V) : Option (sx_Q × List sx_V) := match op, st with
  | 0, .inl (.inl y) :: .inl (.inl x) :: r => some (sx_mm false true E C x y, r)
  | 1, .inl (.inl y) :: .inl (.inl x) :: r => some (sx_mm false false E C x y, r)
  | 2, .inl (.inl x) :: r => some (sx_ab E C x, r)
  | 3, .inl (.inr y) :: .inl (.inr x) :: r => some (sx_mm true true E C x y, r)
  | 4, .inl (.inr y) :: .inl (.inr x) :: r => some (sx_mm true false E C x y, r)
  | _, _ => none
theorem sx_mq_ok {p : Nat → Int} {n : Nat} {E : sx_E} {C : List sx_F} (hE : sx_Sat p E) (hC : sx_Fok p C) {op : Nat} {sa : List sx_V} {st : List Value} {q : sx_Q} {r : List sx_V} (h : sx_mq E C op sa = some (q, r)) (hm : sx_sm p sa st) (hl : ∀ v ∈ sa, sx_vlt n v) : ∃ x st2, pq_math op st = some (x :: st2) ∧ sx_Qok p q x ∧ sx_Qlt n q ∧ sx_sm p r st2 ∧ ∀ v ∈ r, sx_vlt n v := by
  unfold sx_mq at h
  split at h
  · cases h
    rename_i y x
    match st, hm with
    | .int b :: .int a :: st, hm =>
      have ha : a.toInt = sx_ev p x := hm.2.1
      have hb : b.toInt = sx_ev p y := hm.1
      refine ⟨_, st, rfl, sx_mm_i hE hC ha hb ?_, sx_mm_lt (hl _ (List.mem_cons_of_mem _ List.mem_cons_self)) (hl _ List.mem_cons_self), hm.2.2, fun v hv => hl v (List.mem_cons_of_mem _ (List.mem_cons_of_mem _ hv))⟩
      show (if a < b then b else a).toInt = max a.toInt b.toInt
      split
      · rename_i g
        have := Int32.lt_iff_toInt_lt.mp g
        omega
      · rename_i g
        have : ¬ a.toInt < b.toInt := fun z => g (Int32.lt_iff_toInt_lt.mpr z)
        omega
  · cases h
    rename_i y x
    match st, hm with
    | .int b :: .int a :: st, hm =>
      have ha : a.toInt = sx_ev p x := hm.2.1
      have hb : b.toInt = sx_ev p y := hm.1
      refine ⟨_, st, rfl, sx_mm_i hE hC ha hb ?_, sx_mm_lt (hl _ (List.mem_cons_of_mem _ List.mem_cons_self)) (hl _ List.mem_cons_self), hm.2.2, fun v hv => hl v (List.mem_cons_of_mem _ (List.mem_cons_of_mem _ hv))⟩
      show (if b < a then b else a).toInt = min a.toInt b.toInt
      split
      · rename_i g
        have := Int32.lt_iff_toInt_lt.mp g
        omega
      · rename_i g
        have : ¬ b.toInt < a.toInt := fun z => g (Int32.lt_iff_toInt_lt.mpr z)
        omega
  · cases h
    rename_i x
    match st, hm with
    | .int a :: st, hm =>
      have ha : a.toInt = sx_ev p x := hm.1
      exact ⟨_, st, rfl, sx_ab_ok hE hC ha, sx_ab_lt (hl _ List.mem_cons_self), hm.2, fun v hv => hl v (List.mem_cons_of_mem _ hv)⟩
  · cases h
    rename_i y x
    match st, hm with
    | .long b :: .long a :: st, hm =>
      have ha : a.toInt = sx_ev p x := hm.2.1
      have hb : b.toInt = sx_ev p y := hm.1
      refine ⟨_, st, rfl, sx_mm_l hE hC ha hb ?_, sx_mm_lt (hl _ (List.mem_cons_of_mem _ List.mem_cons_self)) (hl _ List.mem_cons_self), hm.2.2, fun v hv => hl v (List.mem_cons_of_mem _ (List.mem_cons_of_mem _ hv))⟩
      show (if b < a then a else b).toInt = max a.toInt b.toInt
      split
      · rename_i g
        have := Int64.lt_iff_toInt_lt.mp g
        omega
      · rename_i g
        have : ¬ b.toInt < a.toInt := fun z => g (Int64.lt_iff_toInt_lt.mpr z)
        omega
  · cases h
    rename_i y x
    match st, hm with
    | .long b :: .long a :: st, hm =>
      have ha : a.toInt = sx_ev p x := hm.2.1
      have hb : b.toInt = sx_ev p y := hm.1
      refine ⟨_, st, rfl, sx_mm_l hE hC ha hb ?_, sx_mm_lt (hl _ (List.mem_cons_of_mem _ List.mem_cons_self)) (hl _ List.mem_cons_self), hm.2.2, fun v hv => hl v (List.mem_cons_of_mem _ (List.mem_cons_of_mem _ hv))⟩
      show (if b < a then b else a).toInt = min a.toInt b.toInt
      split
      · rename_i g
        have := Int64.lt_iff_toInt_lt.mp g
        omega
      · rename_i g
        have : ¬ b.toInt < a.toInt := fun z => g (Int64.lt_iff_toInt_lt.mpr z)
        omega
  · cases h
section SXG
variable {P : sx_P} {w0 : pq_W} {S : sx_S} {pc0 nx t : Nat} {i : Instr} {a : List Nat} {v : Value}
noncomputable def sx_Qc : sx_Q → Nat
  | .inl z => sx_cat z
  | .inr (false, _, _) => 1
  | .inr (true, _, _) => 2
theorem sx_Qc_ok {p : Nat → Int} {q : sx_Q} {x : Value} (h : sx_Qok p q x) : x.category = sx_Qc q := by
  rcases q with z | ⟨_ | _, lo, hi⟩
  · exact sx_d_cat h
  · obtain ⟨y, rfl, _⟩ := h; rfl
  · obtain ⟨y, rfl, _⟩ := h; rfl
noncomputable def sx_c29 (S : sx_S) (nx : Nat) (a : List Nat) : Option (List sx_S) := match sx_mq S.E S.C (a.headD 9) S.fr.st with
  | some (q, r) => bif Nat.ble (sx_Qc q + sx_ssum r) 8 then some [sx_psh S nx r q] else none
  | none => none
theorem sx_c29_ok {l : List sx_S} (hq : pq_look (pq_cd S.fr.M) S.fr.pc = some (pc0, 29, nx, i, a, v, t)) (h : sx_c29 S nx a = some l) : sx_Goes P w0 S l := by
  intro p Kc ls st w m
  unfold sx_c29 at h
  split at h
  · rename_i q r hmq
    obtain ⟨hb, h⟩ := sx_bif h
    cases h
    obtain ⟨x, st2, h1, h2, h3, h4, h5⟩ := sx_mq_ok m.sat m.fok hmq m.stm m.flt.2
    obtain ⟨e1, e2, e3⟩ := sx_psh_k S nx r q
    refine ⟨_, List.mem_singleton.mpr rfl, Kc, ls, x :: st2, w, sx_psh_ok m h5 h4 h3 h2, fun Post => ?_⟩
    rw [e1, e2, e3]
    refine sx_row hq (fun call f => ?_)
    show (match pq_math (a.headD 9) st with
      | some st1 => bif Nat.ble (pq_sum st1) 8 && Nat.ble 0 (pq_lm S.fr.M).1 && Nat.ble 0 (pq_lm S.fr.M).2 then _ else none
      | none => none) = _
    rw [h1]
    show (bif Nat.ble (pq_sum (x :: st2)) 8 && Nat.ble 0 (pq_lm S.fr.M).1 && Nat.ble 0 (pq_lm S.fr.M).2 then _ else none) = _
    rw [show pq_sum (x :: st2) = sx_Qc q + sx_ssum r from by
      rw [← sx_ssum_ok h4, ← sx_Qc_ok h2]
      show ((x :: st2).map fun v => v.category).sum = _
      rw [List.map_cons, List.sum_cons]
      rfl, hb, Nat.ble_eq_true_of_le (Nat.zero_le _), Nat.ble_eq_true_of_le (Nat.zero_le _)]
    rfl
  · cases h
/-! calls -/
noncomputable def sx_z0 (j : Nat) : Bool := match pq_tab[j]? with
  | some M => Nat.beq (pq_lm M).1 0 && Nat.beq (pq_lm M).2 0
  | none => false
theorem sx_z0_ok {j : Nat} (h : sx_z0 j = true) : pq_lim pq_tab j = (0, 0) := by
  unfold sx_z0 at h
  unfold pq_lim
  cases hM : pq_tab[j]? with
  | none => rfl
  | some M =>
    rw [hM] at h
    have h : (Nat.beq (pq_lm M).1 0 && Nat.beq (pq_lm M).2 0) = true := h
    rw [Bool.and_eq_true] at h
    exact Prod.ext (Nat.eq_of_beq_eq_true h.1) (Nat.eq_of_beq_eq_true h.2)
noncomputable def sx_af1 (E : sx_E) (C : List sx_F) : sx_ft → sx_V → Bool
  | .inl (lo, hi), .inl (.inl e) => sx_in E C e lo hi
  | .inr (.inl ()), .inl (.inr _) => true
  | .inr (.inr (.inl n)), .inr (.inr m) => Nat.beq m n
  | .inr (.inr (.inr ())), _ => true
  | _, _ => false
noncomputable def sx_af (E : sx_E) (C : List sx_F) : List sx_ft → List sx_V → Bool
  | [], [] => true
  | a :: r, v :: s => sx_af1 E C a v && sx_af E C r s
  | _, _ => false
theorem sx_af1_ok {p : Nat → Int} {E : sx_E} {C : List sx_F} (hE : sx_Sat p E) (hC : sx_Fok p C) {a : sx_ft} {v : sx_V} {x : Value} (h : sx_af1 E C a v = true) (hd : sx_d p v x) : sx_fok a x := by
  unfold sx_af1 at h
  split at h
  · rename_i lo hi e
    match x, hd with
    | .int y, hd =>
      have hd : y.toInt = sx_ev p e := hd
      show lo ≤ y.toInt ∧ y.toInt ≤ hi
      rw [hd]
      exact sx_in_ok hE hC h
  · match x, hd with
    | .long y, hd => trivial
  · rename_i n m
    match x, hd with
    | .ref y, hd =>
      have hd : y = m := hd
      show y = n
      rw [hd]
      exact Nat.eq_of_beq_eq_true h
  · trivial
  · cases h
theorem sx_af_ok {p : Nat → Int} {E : sx_E} {C : List sx_F} (hE : sx_Sat p E) (hC : sx_Fok p C) : ∀ {as : List sx_ft} {vs : List sx_V} {xs : List Value}, sx_af E C as vs = true → sx_sm p vs xs → sx_argm as xs
  | [], [], [], _, _ => trivial
  | a :: r, v :: s, x :: t, h, hm => by
    unfold sx_af at h
    rw [Bool.and_eq_true] at h
    exact ⟨sx_af1_ok hE hC h.1 hm.1, sx_af_ok hE hC h.2 hm.2⟩
  | [], [], _ :: _, _, hm => hm.elim
  | _ :: _, _ :: _, [], _, hm => hm.elim
  | [], _ :: _, _, h, _ => by cases h
  | _ :: _, [], _, h, _ => by cases h
/-- a form told of arguments, told of what they are -/
noncomputable def sx_sbt (vs : List sx_V) : List (Nat × Int) → Option sx_F
  | [] => some (0, [])
  | q :: r => match vs[q.1]?, sx_sbt vs r with
    | some (.inl (.inl e)), some f => some (sx_add (sx_mul q.2 e) f)
    | some (.inl (.inr e)), some f => some (sx_add (sx_mul q.2 e) f)
    | _, _ => none
noncomputable def sx_sbs (vs : List sx_V) (e : sx_F) : Option sx_F := match sx_sbt vs e.2 with
  | some f => some (sx_add (sx_k e.1) f)
  | none => none
theorem sx_pv_get {p : Nat → Int} : ∀ {vs : List sx_V} {xs : List Value} {n s : Nat} {e : sx_F}, sx_sm p vs xs → (vs[s]? = some (.inl (.inl e)) ∨ vs[s]? = some (.inl (.inr e))) → sx_pv xs n (n + s) = sx_ev p e
  | [], [], _, s, _, _, h => by
    rcases h with h | h <;> cases h
  | v :: vs, x :: xs, n, 0, e, hm, h => by
    show (if n + 0 = n then sx_v2i x else _) = _
    rw [if_pos (Nat.add_zero n)]
    rcases h with h | h
    · cases h
      match x, hm.1 with
      | .int y, hd => exact hd
    · cases h
      match x, hm.1 with
      | .long y, hd => exact hd
  | v :: vs, x :: xs, n, s + 1, e, hm, h => by
    show (if n + (s + 1) = n then _ else sx_pv xs (n + 1) (n + (s + 1))) = _
    rw [if_neg (by omega), show n + (s + 1) = n + 1 + s by omega]
    exact sx_pv_get hm.2 h
  | [], _ :: _, _, _, _, hm, _ => hm.elim
  | _ :: _, [], _, _, _, hm, _ => hm.elim
theorem sx_sbt_ok {p : Nat → Int} {vs : List sx_V} {xs : List Value} (hm : sx_sm p vs xs) : ∀ {l : List (Nat × Int)} {f : sx_F}, sx_sbt vs l = some f → sx_ev p f = sx_ts (sx_pv xs 0) l
  | [], f, h => by
    cases h
    rfl
  | q :: r, f, h => by
    unfold sx_sbt at h
    split at h
    · rename_i e g h1 h2
      cases h
      have e1 := sx_pv_get (n := 0) hm (Or.inl h1)
      rw [Nat.zero_add] at e1
      rw [sx_add_ev, sx_mul_ev, sx_sbt_ok hm h2]
      show _ = q.2 * sx_pv xs 0 q.1 + _
      rw [e1]
    · rename_i e g h1 h2
      cases h
      have e1 := sx_pv_get (n := 0) hm (Or.inr h1)
      rw [Nat.zero_add] at e1
      rw [sx_add_ev, sx_mul_ev, sx_sbt_ok hm h2]
      show _ = q.2 * sx_pv xs 0 q.1 + _
      rw [e1]
    · cases h
theorem sx_sbs_ok {p : Nat → Int} {vs : List sx_V} {xs : List Value} (hm : sx_sm p vs xs) {e f : sx_F} (h : sx_sbs vs e = some f) : sx_ev p f = sx_ev (sx_pv xs 0) e := by
  unfold sx_sbs at h
  split at h
  · rename_i g hg
    cases h
    rw [sx_add_ev, sx_k_ev, sx_sbt_ok hm hg]
    rfl
  · cases h
noncomputable def sx_sbv (vs : List sx_V) : sx_V → Option sx_V
  | .inl (.inl e) => (sx_sbs vs e).map fun f => .inl (.inl f)
  | .inl (.inr e) => (sx_sbs vs e).map fun f => .inl (.inr f)
  | .inr (.inr n) => some (.inr (.inr n))
  | _ => none
theorem sx_sbv_ok {p : Nat → Int} {vs : List sx_V} {xs : List Value} (hm : sx_sm p vs xs) {v u : sx_V} {x : Value} (h : sx_sbv vs v = some u) (hd : sx_d p u x) : sx_d (sx_pv xs 0) v x := by
  unfold sx_sbv at h
  split at h
  · rename_i e
    cases h1 : sx_sbs vs e with
    | none => rw [h1] at h; cases h
    | some f =>
      rw [h1] at h
      cases h
      match x, hd with
      | .int y, hd =>
        have hd : y.toInt = sx_ev p f := hd
        show y.toInt = sx_ev (sx_pv xs 0) e
        rw [hd, sx_sbs_ok hm h1]
  · rename_i e
    cases h1 : sx_sbs vs e with
    | none => rw [h1] at h; cases h
    | some f =>
      rw [h1] at h
      cases h
      match x, hd with
      | .long y, hd =>
        have hd : y.toInt = sx_ev p f := hd
        show y.toInt = sx_ev (sx_pv xs 0) e
        rw [hd, sx_sbs_ok hm h1]
  · cases h
    match x, hd with
    | .ref y, hd => exact hd
  · cases h
noncomputable def sx_knf (vs : List sx_V) (O : sx_O) (l : sx_O) : Bool := l.all fun q => match sx_sbs vs q.2.1, sx_sbv vs q.2.2 with
  | some e, some u => (match sx_of O q.1 e with
    | some v => sx_veq v u
    | none => false)
  | _, _ => false
theorem sx_knf_ok {p : Nat → Int} {w : pq_W} {vs : List sx_V} {xs : List Value} {O l : sx_O} (hm : sx_sm p vs xs) (hO : sx_Ook p w O) (h : sx_knf vs O l = true) : sx_Ook (sx_pv xs 0) w l := by
  intro q hq
  unfold sx_knf at h
  rw [List.all_eq_true] at h
  have h1 := h q hq
  split at h1
  · rename_i e u he hu
    split at h1
    · rename_i v hv
      obtain ⟨i, e1, x, e2, e3⟩ := hO _ (sx_of_mem hv)
      have e1 : (i : Int) = sx_ev p e := e1
      have e3 : sx_d p v x := e3
      rw [sx_veq_ok h1] at e3
      exact ⟨i, by rw [e1, sx_sbs_ok hm he], x, e2, sx_sbv_ok hm hu e3⟩
    · cases h1
  · cases h1
noncomputable def sx_gbv (E : sx_E) (C : List sx_F) (isL : Bool) (lo hi : Int) (v : sx_V) : Bool := match isL, v with
  | false, .inl (.inl e) => sx_in E C e lo hi
  | true, .inl (.inr e) => sx_in E C e lo hi
  | _, _ => false
theorem sx_gbv_ok {p : Nat → Int} {E : sx_E} {C : List sx_F} (hE : sx_Sat p E) (hC : sx_Fok p C) {isL : Bool} {lo hi : Int} {v : sx_V} {x : Value} (h : sx_gbv E C isL lo hi v = true) (hd : sx_d p v x) : sx_bv isL lo hi x := by
  unfold sx_gbv at h
  split at h
  · rename_i e
    match x, hd with
    | .int y, hd =>
      have hd : y.toInt = sx_ev p e := hd
      show lo ≤ y.toInt ∧ y.toInt ≤ hi
      rw [hd]
      exact sx_in_ok hE hC h
  · rename_i e
    match x, hd with
    | .long y, hd =>
      have hd : y.toInt = sx_ev p e := hd
      show lo ≤ y.toInt ∧ y.toInt ≤ hi
      rw [hd]
      exact sx_in_ok hE hC h
  · cases h
/-- what the cells' kinds say of a place -/
noncomputable def sx_kgr (T : List sx_ct) (E : sx_E) (C : List sx_F) (q : Nat × sx_F × Bool × Int × Int) (e : sx_F) : Bool := match T[q.1]?, q.2.2.1 with
  | some (.inr (.inl (_, n, gs))), false => sx_inx E C e 0 ((n : Int) - 1) && sx_le q.2.2.2.1 (sx_rg E C e gs).1 && sx_le (sx_rg E C e gs).2 q.2.2.2.2
  | _, _ => false
noncomputable def sx_kgf (T : List sx_ct) (E : sx_E) (C : List sx_F) (vs : List sx_V) (O : sx_O) (g : sx_Gh) : Bool := g.all fun q => match sx_sbs vs q.2.1 with
  | some e => (match sx_of O q.1 (sx_nrm E e) with
    | some v => sx_gbv E C q.2.2.1 q.2.2.2.1 q.2.2.2.2 v
    | none => sx_kgr T E C q e)
  | none => false
theorem sx_kgf_ok {T : List sx_ct} {p : Nat → Int} {E : sx_E} {C : List sx_F} (hE : sx_Sat p E) (hC : sx_Fok p C) {w : pq_W} {vs : List sx_V} {xs : List Value} {O : sx_O} {g : sx_Gh} (hm : sx_sm p vs xs) (hO : sx_Ook p w O) (ht : sx_Ty T w) (h : sx_kgf T E C vs O g = true) : sx_Gok (sx_pv xs 0) w g := by
  intro q hq
  unfold sx_kgf at h
  rw [List.all_eq_true] at h
  have h1 := h q hq
  split at h1
  · rename_i e he
    split at h1
    · rename_i v hv
      obtain ⟨i, e1, x, e2, e3⟩ := hO _ (sx_of_mem hv)
      have e1 : (i : Int) = sx_ev p (sx_nrm E e) := e1
      exact ⟨i, by rw [e1, sx_nrm_ok hE, sx_sbs_ok hm he], x, e2, sx_gbv_ok hE hC h1 e3⟩
    · unfold sx_kgr at h1
      split at h1
      · rename_i ty n gs hT hb
        rw [Bool.and_eq_true, Bool.and_eq_true] at h1
        obtain ⟨⟨k1, k2⟩, k3⟩ := h1
        have k1 := sx_inx_ok hE hC k1
        have k2 : q.2.2.2.1 ≤ (sx_rg E C e gs).1 := sx_leT k2
        have k3 : (sx_rg E C e gs).2 ≤ q.2.2.2.2 := sx_leT k3
        obtain ⟨f, hw, hg⟩ := sx_arr ht hT
        have hi : (((sx_ev p e).toNat : Nat) : Int) = sx_ev p e := Int.toNat_of_nonneg k1.1
        have hrg := sx_rg_ok hE hC (e := e) (f := f) (i := (sx_ev p e).toNat) hi hg
        refine ⟨(sx_ev p e).toNat, by rw [hi, sx_sbs_ok hm he], .int (f (sx_ev p e).toNat), ?_, ?_⟩
        · rw [sx_wg_of hw]
          exact if_pos (by omega)
        · rw [hb]
          show q.2.2.2.1 ≤ (f _).toInt ∧ (f _).toInt ≤ q.2.2.2.2
          omega
      · cases h1
  · cases h1
noncomputable def sx_ctf (T : List sx_ct) (E : sx_E) (C : List sx_F) (O : sx_O) (k j : Nat) (vs : List sx_V) : List (Nat × sx_K) → Option sx_K
  | [] => none
  | q :: r => bif Nat.beq q.1 j && Nat.ble q.2.k k && sx_af E C q.2.as vs && sx_knf vs O q.2.kn && sx_kgf T E C vs O q.2.kg then some q.2 else sx_ctf T E C O k j vs r
theorem sx_ctf_ok {T : List sx_ct} {E : sx_E} {C : List sx_F} {O : sx_O} {k j : Nat} {vs : List sx_V} {c : sx_K} : ∀ {CT : List (Nat × sx_K)}, sx_ctf T E C O k j vs CT = some c → (j, c) ∈ CT ∧ c.k ≤ k ∧ sx_af E C c.as vs = true ∧ sx_knf vs O c.kn = true ∧ sx_kgf T E C vs O c.kg = true
  | [], h => by cases h
  | q :: r, h => by
    unfold sx_ctf at h
    cases hb : Nat.beq q.1 j && Nat.ble q.2.k k && sx_af E C q.2.as vs && sx_knf vs O q.2.kn && sx_kgf T E C vs O q.2.kg with
    | true =>
      rw [hb] at h
      cases h
      rw [Bool.and_eq_true, Bool.and_eq_true, Bool.and_eq_true, Bool.and_eq_true] at hb
      refine ⟨?_, Nat.le_of_ble_eq_true hb.1.1.1.2, hb.1.1.2, hb.1.2, hb.2⟩
      rw [← Nat.eq_of_beq_eq_true hb.1.1.1.1]
      exact List.mem_cons_self
    | false =>
      rw [hb] at h
      obtain ⟨h1, h2⟩ := sx_ctf_ok h
      exact ⟨List.mem_cons_of_mem _ h1, h2⟩
/-- what stays known over a call that writes there -/
noncomputable def sx_kpm (E : sx_E) (C : List sx_F) (md : sx_A) (O : sx_O) : sx_O := O.filter fun q => md.all fun d => !(Nat.beq d.1 q.1) || sx_hi E C q.2.1 (d.2.1 - 1) || sx_lo E C q.2.1 (d.2.2 + 1)
theorem sx_kpm_ok {p : Nat → Int} {E : sx_E} {C : List sx_F} (hE : sx_Sat p E) (hC : sx_Fok p C) {md : sx_A} {O : sx_O} {w w1 : pq_W} (h : sx_Ook p w O) (hf : sx_Fr md w w1) : sx_Ook p w1 (sx_kpm E C md O) := by
  intro q hq
  obtain ⟨h1, h2⟩ := List.mem_filter.mp hq
  obtain ⟨i, k1, x, k2, k3⟩ := h q h1
  refine ⟨i, k1, x, ?_, k3⟩
  rw [hf q.1 i, k2]
  rintro ⟨d, hd, e1, e2, e3⟩
  rw [List.all_eq_true] at h2
  have h3 := h2 d hd
  rw [Bool.or_eq_true, Bool.or_eq_true] at h3
  rcases h3 with (h3 | h3) | h3
  · exact sx_nbeq h3 e1
  · have := sx_hi_ok hE hC h3
    omega
  · have := sx_lo_ok hE hC h3
    omega
noncomputable def sx_sub_A (md A : sx_A) : Bool := md.all fun d => A.any fun q => Nat.beq q.1 d.1 && sx_le q.2.1 d.2.1 && sx_le d.2.2 q.2.2
theorem sx_sub_A_ok {md A : sx_A} (h : sx_sub_A md A = true) {r i : Nat} (hi : sx_InA md r i) : sx_InA A r i := by
  obtain ⟨d, hd, e1, e2, e3⟩ := hi
  unfold sx_sub_A at h
  rw [List.all_eq_true] at h
  have h1 := h d hd
  rw [List.any_eq_true] at h1
  obtain ⟨q, hq, h2⟩ := h1
  simp only [Bool.and_eq_true] at h2
  have d1 : q.2.1 ≤ d.2.1 := sx_leT h2.1.2
  have d2 : d.2.2 ≤ q.2.2 := sx_leT h2.2
  exact ⟨q, hq, (Nat.eq_of_beq_eq_true h2.1.1).trans e1, by omega, by omega⟩
noncomputable def sx_args : Nat → List sx_V → List (Nat × sx_V)
  | _, [] => []
  | i, v :: r => (i, v) :: sx_args (i + sx_cat v) r
theorem sx_args_ge : ∀ {l : List sx_V} {i : Nat}, ∀ q ∈ sx_args i l, i ≤ q.1
  | [], _, q, h => by cases h
  | v :: r, i, q, h => by
    cases List.mem_cons.mp h with
    | inl e => rw [e]; exact Nat.le_refl _
    | inr e => exact Nat.le_trans (Nat.le_add_right _ _) (sx_args_ge q e)
theorem sx_args_lt {n : Nat} : ∀ {l : List sx_V} {i : Nat}, (∀ v ∈ l, sx_vlt n v) → ∀ q ∈ sx_args i l, sx_vlt n q.2
  | [], _, _, q, h => by cases h
  | v :: r, i, hl, q, h => by
    cases List.mem_cons.mp h with
    | inl e => rw [e]; exact hl v List.mem_cons_self
    | inr e => exact sx_args_lt (fun v hv => hl v (List.mem_cons_of_mem _ hv)) q e
theorem sx_args_ok {p : Nat → Int} : ∀ {l : List sx_V} {xs : List Value} {i : Nat}, sx_sm p l xs → sx_lm p (sx_args i l) (lv_args i xs)
  | [], [], _, _ => fun q h => by cases h
  | v :: r, x :: s, i, hm => fun q h => by
    have hc : (if x.category = 2 then i + 2 else i + 1) = i + sx_cat v := by
      rw [sx_d_cat hm.1]
      rcases v with (e | e) | (e | k) <;> rfl
    have e1 : lv_args i (x :: s) = (i, x) :: lv_args (i + sx_cat v) s := by
      show (i, x) :: lv_args (if x.category = 2 then i + 2 else i + 1) s = _
      rw [hc]
    rw [e1]
    cases List.mem_cons.mp h with
    | inl e =>
      rw [e]
      refine ⟨x, ?_, hm.1⟩
      unfold pq_lk
      rw [Nat.beq_refl]
      rfl
    | inr e =>
      obtain ⟨y, h1, h2⟩ := sx_args_ok hm.2 q e
      refine ⟨y, ?_, h2⟩
      have hg := sx_args_ge q e
      have hv : 1 ≤ sx_cat v := by
        rcases v with (e | e) | (e | k)
        · exact Nat.le_refl 1
        · exact Nat.le_succ 1
        · exact Nat.le_refl 1
        · exact Nat.le_refl 1
      unfold pq_lk
      rw [sx_nb (show ¬ i = q.1 by omega)]
      exact h1
  | [], _ :: _, _, hm => hm.elim
  | _ :: _, [], _, hm => hm.elim
noncomputable def sx_rcv (P : sx_P) (M : pq_M) (vs : List sx_V) : Bool := match (pq_ns M).headD 9 with
  | 1 => match vs with
    | .inr (.inr b) :: _ => match P.T[b]? with
      | some (.inl (ci, _)) => Nat.beq ci ((pq_ns M).getD 6 99)
      | _ => false
    | _ => false
  | 2 => match vs with
    | .inr (.inr _) :: _ => true
    | _ => false
  | _ => true
theorem sx_rcv_ok {P : sx_P} {M : pq_M} {vs : List sx_V} {xs : List Value} {p : Nat → Int} {w : pq_W} (h : sx_rcv P M vs = true) (hm : sx_sm p vs xs) (ht : sx_Ty P.T w) : pq_rcv M xs w = true := by
  unfold sx_rcv at h
  unfold pq_rcv
  generalize (pq_ns M).headD 9 = z at h ⊢
  match z, h with
  | 0, _ => rfl
  | 1, h =>
    match vs, hm, h with
    | .inr (.inr b) :: r, hm, h =>
      match xs, hm with
      | .ref y :: xs, hm =>
        have e : y = b := hm.1
        subst e
        have h : (match P.T[y]? with
          | some (.inl (ci, _)) => Nat.beq ci ((pq_ns M).getD 6 99)
          | _ => false) = true := h
        split at h
        · rename_i ci fs hT
          obtain ⟨vs, hw, _⟩ := sx_obj ht hT
          show (match w[y]? with
            | some (.inr (ci, _)) => Nat.beq ci ((pq_ns M).getD 6 99)
            | _ => false) = true
          rw [hw]
          exact h
        · cases h
  | 2, h =>
    match vs, hm, h with
    | .inr (.inr b) :: r, hm, h =>
      match xs, hm with
      | .ref y :: xs, hm => rfl
  | z + 3, _ => rfl
noncomputable def sx_anf : List (Nat × List (Nat × sx_an)) → Nat → List (Nat × sx_an)
  | [], _ => []
  | q :: r, j => bif Nat.beq q.1 j then q.2 else sx_anf r j
/-- intervals of new symbols -/
noncomputable def sx_nvs : Nat → List (Int × Int) → sx_E
  | _, [] => []
  | n, i :: r => (n, i.1, i.2) :: sx_nvs (n + 1) r
noncomputable def sx_nys : Nat → Nat → List sx_V
  | _, 0 => []
  | n, k + 1 => .inl (.inl (sx_y n)) :: sx_nys (n + 1) k
noncomputable def sx_sbo (vs : List sx_V) : sx_O → Option sx_O
  | [] => some []
  | q :: r => match sx_sbs vs q.2.1, sx_sbv vs q.2.2, sx_sbo vs r with
    | some e, some v, some o => some ((q.1, e, v) :: o)
    | _, _, _ => none
noncomputable def sx_ans (S : sx_S) (nx : Nat) (rest vs : List sx_V) (z : sx_An) : Option sx_S := match sx_sbv (vs ++ sx_nys S.n z.1.length) z.2.1, sx_sbo (vs ++ sx_nys S.n z.1.length) z.2.2 with
  | some v, some o => some (sx_to (S.n + z.1.length, sx_nvs S.n z.1 ++ S.E, S.C, o ++ S.O, S.k, S.fr, S.K) nx (v :: rest))
  | _, _ => none
noncomputable def sx_anl (S : sx_S) (nx : Nat) (rest vs : List sx_V) : List sx_An → Option (List sx_S)
  | [] => some []
  | z :: r => match sx_ans S nx rest vs z, sx_anl S nx rest vs r with
    | some s, some l => some (s :: l)
    | _, _ => none
/-- the state behind a call told by its row c -/
noncomputable def sx_aft (S : sx_S) (nx : Nat) (rest vs : List sx_V) (c : sx_K) : Option (List sx_S) :=
  let S1 : sx_S := (S.n, S.E, S.C, sx_kpm S.E S.C c.md S.O, S.k, S.fr, S.K)
  match c.pt with
  | [] => (match c.rt with
    | none => some [sx_to S1 nx rest]
    | some (.inl (lo, hi)) => some [sx_psh S1 nx rest (.inr (false, lo, hi))]
    | some (.inr (.inl ())) => some [sx_psh S1 nx rest (sx_zf true)]
    | _ => none)
  | q :: l => bif Nat.beq vs.length c.as.length then sx_anl S1 nx rest vs (q :: l) else none
theorem sx_anl_mem {S : sx_S} {nx : Nat} {rest vs : List sx_V} {z : sx_An} : ∀ {l : List sx_An} {o : List sx_S}, sx_anl S nx rest vs l = some o → z ∈ l → ∃ s ∈ o, sx_ans S nx rest vs z = some s
  | [], _, _, h => by cases h
  | a :: r, o, h, hz => by
    unfold sx_anl at h
    split at h
    · rename_i s1 l1 h1 h2
      cases h
      cases List.mem_cons.mp hz with
      | inl e => rw [e]; exact ⟨s1, List.mem_cons_self, h1⟩
      | inr e =>
        obtain ⟨s, k1, k2⟩ := sx_anl_mem h2 e
        exact ⟨s, List.mem_cons_of_mem _ k1, k2⟩
    · cases h
/-- values of arguments and of new symbols, as the answer's row counts them -/
noncomputable def sx_vl (p : Nat → Int) : sx_V → Int
  | .inl (.inl e) => sx_ev p e
  | .inl (.inr e) => sx_ev p e
  | _ => 0
theorem sx_sbt2 {p p2 : Nat → Int} {vs : List sx_V} (h : ∀ s v, vs[s]? = some v → (∃ e, v = .inl (.inl e) ∨ v = .inl (.inr e)) → p2 s = sx_vl p v) : ∀ {l : List (Nat × Int)} {f : sx_F}, sx_sbt vs l = some f → sx_ev p f = sx_ts p2 l
  | [], f, h2 => by
    cases h2
    rfl
  | q :: r, f, h2 => by
    unfold sx_sbt at h2
    split at h2
    · rename_i e g h3 h4
      cases h2
      rw [sx_add_ev, sx_mul_ev, sx_sbt2 h h4]
      show _ = q.2 * p2 q.1 + _
      rw [h q.1 _ h3 ⟨e, Or.inl rfl⟩]
      rfl
    · rename_i e g h3 h4
      cases h2
      rw [sx_add_ev, sx_mul_ev, sx_sbt2 h h4]
      show _ = q.2 * p2 q.1 + _
      rw [h q.1 _ h3 ⟨e, Or.inr rfl⟩]
      rfl
    · cases h2
theorem sx_sbs2 {p p2 : Nat → Int} {vs : List sx_V} (h : ∀ s v, vs[s]? = some v → (∃ e, v = .inl (.inl e) ∨ v = .inl (.inr e)) → p2 s = sx_vl p v) {e f : sx_F} (h2 : sx_sbs vs e = some f) : sx_ev p f = sx_ev p2 e := by
  unfold sx_sbs at h2
  split at h2
  · rename_i g hg
    cases h2
    rw [sx_add_ev, sx_k_ev, sx_sbt2 h hg]
    rfl
  · cases h2
theorem sx_sbv2 {p p2 : Nat → Int} {vs : List sx_V} (h : ∀ s v, vs[s]? = some v → (∃ e, v = .inl (.inl e) ∨ v = .inl (.inr e)) → p2 s = sx_vl p v) {v u : sx_V} {x : Value} (h2 : sx_sbv vs v = some u) (hd : sx_d p2 v x) : sx_d p u x := by
  unfold sx_sbv at h2
  split at h2
  · rename_i e
    cases h1 : sx_sbs vs e with
    | none => rw [h1] at h2; cases h2
    | some f =>
      rw [h1] at h2
      cases h2
      match x, hd with
      | .int y, hd =>
        have hd : y.toInt = sx_ev p2 e := hd
        show y.toInt = sx_ev p f
        rw [hd, sx_sbs2 h h1]
  · rename_i e
    cases h1 : sx_sbs vs e with
    | none => rw [h1] at h2; cases h2
    | some f =>
      rw [h1] at h2
      cases h2
      match x, hd with
      | .long y, hd =>
        have hd : y.toInt = sx_ev p2 e := hd
        show y.toInt = sx_ev p f
        rw [hd, sx_sbs2 h h1]
  · cases h2
    match x, hd with
    | .ref y, hd => exact hd
  · cases h2
theorem sx_sbo2 {p p2 : Nat → Int} {w : pq_W} {vs : List sx_V} (h : ∀ s v, vs[s]? = some v → (∃ e, v = .inl (.inl e) ∨ v = .inl (.inr e)) → p2 s = sx_vl p v) : ∀ {O o : sx_O}, sx_sbo vs O = some o → sx_Ook p2 w O → sx_Ook p w o
  | [], o, h2, _ => by
    cases h2
    intro q hq
    cases hq
  | q :: r, o, h2, hO => by
    unfold sx_sbo at h2
    split at h2
    · rename_i e v o2 h3 h4 h5
      cases h2
      intro z hz
      cases List.mem_cons.mp hz with
      | inl e0 =>
        rw [e0]
        obtain ⟨i, k1, x, k2, k3⟩ := hO q List.mem_cons_self
        exact ⟨i, by rw [k1]; exact (sx_sbs2 h h3).symm, x, k2, sx_sbv2 h h4 k3⟩
      | inr e0 => exact sx_sbo2 h h5 (fun z hz => hO z (List.mem_cons_of_mem _ hz)) z e0
    · cases h2
theorem sx_sbt_lt {n : Nat} {vs : List sx_V} (hv : ∀ v ∈ vs, sx_vlt n v) : ∀ {l : List (Nat × Int)} {f : sx_F}, sx_sbt vs l = some f → sx_lt n f
  | [], f, h => by
    cases h
    intro q hq
    cases hq
  | q :: r, f, h => by
    unfold sx_sbt at h
    split at h
    · rename_i e g h1 h2
      cases h
      exact sx_add_lt (sx_mul_lt (hv _ (List.mem_of_getElem? h1))) (sx_sbt_lt hv h2)
    · rename_i e g h1 h2
      cases h
      exact sx_add_lt (sx_mul_lt (hv _ (List.mem_of_getElem? h1))) (sx_sbt_lt hv h2)
    · cases h
theorem sx_sbs_lt {n : Nat} {vs : List sx_V} (hv : ∀ v ∈ vs, sx_vlt n v) {e f : sx_F} (h : sx_sbs vs e = some f) : sx_lt n f := by
  unfold sx_sbs at h
  split at h
  · rename_i g hg
    cases h
    exact sx_add_lt (sx_k_lt _ _) (sx_sbt_lt hv hg)
  · cases h
theorem sx_sbv_lt {n : Nat} {vs : List sx_V} (hv : ∀ v ∈ vs, sx_vlt n v) {v u : sx_V} (h : sx_sbv vs v = some u) : sx_vlt n u := by
  unfold sx_sbv at h
  split at h
  · rename_i e
    cases h1 : sx_sbs vs e with
    | none => rw [h1] at h; cases h
    | some f => rw [h1] at h; cases h; exact sx_sbs_lt hv h1
  · rename_i e
    cases h1 : sx_sbs vs e with
    | none => rw [h1] at h; cases h
    | some f => rw [h1] at h; cases h; exact sx_sbs_lt hv h1
  · cases h
    trivial
  · cases h
theorem sx_sbo_lt {n : Nat} {vs : List sx_V} (hv : ∀ v ∈ vs, sx_vlt n v) : ∀ {O o : sx_O}, sx_sbo vs O = some o → sx_Olt n o
  | [], o, h => by
    cases h
    intro q hq
    cases hq
  | q :: r, o, h => by
    unfold sx_sbo at h
    split at h
    · rename_i e v o2 h3 h4 h5
      cases h
      intro z hz
      cases List.mem_cons.mp hz with
      | inl e0 => rw [e0]; exact ⟨sx_sbs_lt hv h3, sx_sbv_lt hv h4⟩
      | inr e0 => exact sx_sbo_lt hv h5 z e0
    · cases h
theorem sx_nys_get : ∀ {k n s : Nat} {v : sx_V}, (sx_nys n k)[s]? = some v → v = .inl (.inl (sx_y (n + s))) ∧ s < k
  | 0, _, _, _, h => by cases h
  | k + 1, n, 0, v, h => by
    cases h
    exact ⟨rfl, Nat.succ_pos _⟩
  | k + 1, n, s + 1, v, h => by
    obtain ⟨h1, h2⟩ := sx_nys_get (k := k) (n := n + 1) (s := s) h
    exact ⟨by rw [h1, show n + 1 + s = n + (s + 1) by omega], by omega⟩
theorem sx_nys_lt {n : Nat} : ∀ {k m : Nat}, m + k ≤ n → ∀ v ∈ sx_nys m k, sx_vlt n v
  | 0, _, _, v, h => by cases h
  | k + 1, m, hm, v, h => by
    cases List.mem_cons.mp h with
    | inl e => rw [e]; exact sx_y_lt (by omega)
    | inr e => exact sx_nys_lt (by omega) v e
theorem sx_nvs_ok {p p2 : Nat → Int} : ∀ {l : List (Int × Int)} {n m : Nat}, sx_ivs p2 m l → (∀ i, i < l.length → p (n + i) = p2 (m + i)) → sx_Sat p (sx_nvs n l) ∧ sx_Elt (n + l.length) (sx_nvs n l)
  | [], _, _, _, _ => ⟨fun q hq => (by cases hq), fun q hq => (by cases hq)⟩
  | i :: r, n, m, h, he => by
    obtain ⟨h1, h2, h3⟩ := h
    obtain ⟨k1, k2⟩ := sx_nvs_ok (n := n + 1) h3 (fun j hj => by
      have := he (j + 1) (by rw [List.length_cons]; omega)
      rw [show n + 1 + j = n + (j + 1) by omega, show m + 1 + j = m + (j + 1) by omega]
      exact this)
    have e0 := he 0 (by rw [List.length_cons]; omega)
    constructor
    · intro q hq
      cases List.mem_cons.mp hq with
      | inl e => rw [e]; show i.1 ≤ p n ∧ p n ≤ i.2; rw [show p n = p2 m from e0]; exact ⟨h1, h2⟩
      | inr e => exact k1 q e
    · intro q hq
      cases List.mem_cons.mp hq with
      | inl e => rw [e, List.length_cons]; show n < n + (r.length + 1); omega
      | inr e =>
        rw [List.length_cons, show n + (r.length + 1) = n + 1 + r.length by omega]
        exact k2 q e
noncomputable def sx_c28 (P : sx_P) (S : sx_S) (nx : Nat) (a : List Nat) : Option (List sx_S) := match a with
  | [j, n] => bif Nat.ble n S.fr.st.length && Nat.ble (sx_ssum (S.fr.st.drop n)) 8 && sx_z0 j then
    (match sx_ctf P.T S.E S.C S.O S.k j (S.fr.st.take n).reverse P.CT with
    | some c => bif sx_sub_A c.md P.A then sx_aft S nx (S.fr.st.drop n) (S.fr.st.take n).reverse c else none
    | none => match pq_tab[j]?, S.k with
      | some M, k + 1 => bif Nat.ble (sx_ssum (S.fr.st.take n)) (pq_mL M) && sx_rcv P M (S.fr.st.take n).reverse then some [(S.n, S.E, S.C, S.O, k, (j, M, 0, sx_args 0 (S.fr.st.take n).reverse, [], sx_anf P.AN j), (S.fr.j, S.fr.M, nx, S.fr.ls, S.fr.st.drop n, S.fr.an) :: S.K)] else none
      | _, _ => none) else none
  | _ => none
theorem sx_ssum_app : ∀ a b : List sx_V, sx_ssum (a ++ b) = sx_ssum a + sx_ssum b
  | [], b => by show sx_ssum b = 0 + sx_ssum b; omega
  | x :: a, b => by
    show sx_cat x + sx_ssum (a ++ b) = sx_cat x + sx_ssum a + sx_ssum b
    rw [sx_ssum_app a b]
    omega
theorem sx_ssum_rev : ∀ a : List sx_V, sx_ssum a.reverse = sx_ssum a
  | [] => rfl
  | x :: a => by
    rw [List.reverse_cons, sx_ssum_app, sx_ssum_rev a]
    show sx_ssum a + (sx_cat x + 0) = sx_cat x + sx_ssum a
    omega
theorem sx_c28_ok {J : pq_W → Prop} {l : List sx_S} (hct : ∀ q ∈ P.CT, sx_Kok P.T J q.1 q.2) (hJ : ∀ w, sx_Ty P.T w → sx_Fr P.A w0 w → J w) (hq : pq_look (pq_cd S.fr.M) S.fr.pc = some (pc0, 28, nx, i, a, v, t)) (h : sx_c28 P S nx a = some l) : sx_Goes P w0 S l := by
  intro p Kc ls st w m
  unfold sx_c28 at h
  split at h
  · rename_i j n
    obtain ⟨hb, h⟩ := sx_bif h
    rw [Bool.and_eq_true, Bool.and_eq_true] at hb
    obtain ⟨⟨b1, b2⟩, b3⟩ := hb
    have hlim := sx_z0_ok b3
    obtain ⟨hm1, hm2⟩ := sx_sm_take (n := n) m.stm
    have hlen : Nat.ble n st.length = true := by
      rw [sx_sm_len m.stm]
      exact b1
    have hsum : Nat.ble (pq_sum (st.drop n)) 8 = true := by
      rw [sx_ssum_ok hm2]
      exact b2
    have hf1 : ∀ v ∈ (S.fr.st.take n).reverse, sx_vlt S.n v := fun v hv => m.flt.2 v (List.mem_of_mem_take (List.mem_reverse.mp hv))
    have hf2 : ∀ v ∈ S.fr.st.drop n, sx_vlt S.n v := fun v hv => m.flt.2 v (List.mem_of_mem_drop hv)
    have hma := sx_sm_rev hm1
    split at h
    · rename_i c hc
      obtain ⟨g1, g2, g3, g4, g5⟩ := sx_ctf_ok hc
      obtain ⟨hb4, h⟩ := sx_bif h
      obtain ⟨r, w1, k1, k2, k3, k4, k5⟩ := hct _ g1 _ w (sx_af_ok m.sat m.fok g3 hma) (sx_knf_ok hma m.ook g4) (sx_kgf_ok m.sat m.fok hma m.ook m.typ g5) m.typ (hJ w m.typ m.frm)
      have hfr : sx_Fr P.A w0 w1 := fun r3 i3 hn => by
        rw [k5 r3 i3 (fun z => hn (sx_sub_A_ok hb4 z))]
        exact m.frm r3 i3 hn
      have m1 : sx_Mt P.T P.A w0 p (S.n, S.E, S.C, sx_kpm S.E S.C c.md S.O, S.k, S.fr, S.K) Kc ls st w1 := (sx_mkMt (sat := m.sat) (fok := m.fok) (elt := m.elt) (clt := m.clt) (olt := fun q hq => m.olt q (List.mem_filter.mp hq).1) (flt := m.flt) (klt := m.klt) (ook := sx_kpm_ok m.sat m.fok m.ook k5) (typ := k2) (frm := hfr) (lsm := m.lsm) (stm := m.stm) (ksm := m.ksm) (tbm := m.tbm))
      have hcal : ∀ Post, sx_Ok Post S.k Kc S.fr.M nx ls (r.toList ++ st.drop n) w1 → sx_Ok Post S.k Kc S.fr.M S.fr.pc ls st w := fun Post => sx_cal hq hlen hsum hlim rfl g2 k1
      unfold sx_aft at h
      have hrt0 := k4
      unfold sx_Rm at hrt0
      have h : (match c.pt with
        | [] => (match c.rt with
          | none => some [sx_to (S.n, S.E, S.C, sx_kpm S.E S.C c.md S.O, S.k, S.fr, S.K) nx (S.fr.st.drop n)]
          | some (.inl (lo, hi)) => some [sx_psh (S.n, S.E, S.C, sx_kpm S.E S.C c.md S.O, S.k, S.fr, S.K) nx (S.fr.st.drop n) (.inr (false, lo, hi))]
          | some (.inr (.inl ())) => some [sx_psh (S.n, S.E, S.C, sx_kpm S.E S.C c.md S.O, S.k, S.fr, S.K) nx (S.fr.st.drop n) (sx_zf true)]
          | _ => none)
        | q :: l => bif Nat.beq (S.fr.st.take n).reverse.length c.as.length then sx_anl (S.n, S.E, S.C, sx_kpm S.E S.C c.md S.O, S.k, S.fr, S.K) nx (S.fr.st.drop n) (S.fr.st.take n).reverse (q :: l) else none) = some l := h
      cases hra : c.pt with
      | cons q0 l0 =>
        rw [hra] at h hrt0
        obtain ⟨hlb, h⟩ := sx_bif h
        have hlb := Nat.eq_of_beq_eq_true hlb
        obtain ⟨z, hz, p2, z1, z2, ⟨x, rfl, z3⟩, z4⟩ := hrt0
        obtain ⟨s0, hs0, hans⟩ := sx_anl_mem h hz
        unfold sx_ans at hans
        split at hans
        · rename_i v o hv ho
          cases hans
          have le : S.n ≤ S.n + z.1.length := Nat.le_add_right _ _
          -- the new valuation
          have hp' : ∃ p' : Nat → Int, (∀ s, s < S.n → p' s = p s) ∧ ∀ i, i < z.1.length → p' (S.n + i) = p2 (c.as.length + i) := by
            refine ⟨fun s => if s < S.n then p s else p2 (c.as.length + (s - S.n)), fun s hs => if_pos hs, fun i hi => ?_⟩
            show (if S.n + i < S.n then _ else p2 (c.as.length + (S.n + i - S.n))) = _
            rw [if_neg (by omega), show S.n + i - S.n = i by omega]
          obtain ⟨p', ag, an⟩ := hp'
          have hvl : ∀ s v, ((S.fr.st.take n).reverse ++ sx_nys S.n z.1.length)[s]? = some v → (∃ e, v = .inl (.inl e) ∨ v = .inl (.inr e)) → p2 s = sx_vl p' v := by
            intro s v hsv hse
            by_cases hs : s < (S.fr.st.take n).reverse.length
            · rw [List.getElem?_append_left hs] at hsv
              rw [z1 s (Nat.lt_of_lt_of_eq hs hlb)]
              obtain ⟨e, he⟩ := hse
              have hml : sx_lt S.n e := by
                have := hf1 v (List.mem_of_getElem? hsv)
                rcases he with rfl | rfl <;> exact this
              have e1 := sx_pv_get (n := 0) (e := e) hma (s := s) (by
                rcases he with rfl | rfl
                · exact Or.inl hsv
                · exact Or.inr hsv)
              rw [Nat.zero_add] at e1
              rw [e1]
              rcases he with rfl | rfl
              · exact (sx_ev_agree ag hml).symm
              · exact (sx_ev_agree ag hml).symm
            · rw [List.getElem?_append_right (by omega)] at hsv
              obtain ⟨k1, k2⟩ := sx_nys_get hsv
              rw [k1]
              show _ = sx_ev p' (sx_y _)
              rw [sx_y_ev, an _ k2, hlb]
              congr 1
              omega
          have hvn : ∀ v ∈ (S.fr.st.take n).reverse ++ sx_nys S.n z.1.length, sx_vlt (S.n + z.1.length) v := by
            intro v hv
            cases List.mem_append.mp hv with
            | inl e => exact sx_vlt_mono le (hf1 v e)
            | inr e => exact sx_nys_lt (Nat.le_refl _) v e
          obtain ⟨nv1, nv2⟩ := sx_nvs_ok (p := p') (n := S.n) z2 an
          have m2 := sx_Mt_agree m1 ag
          have mm : sx_Mt P.T P.A w0 p' (S.n + z.1.length, sx_nvs S.n z.1 ++ S.E, S.C, o ++ sx_kpm S.E S.C c.md S.O, S.k, S.fr, S.K) Kc ls st w1 :=
            sx_mkMt
              (sat := fun q hq => by
                cases List.mem_append.mp hq with
                | inl e => exact nv1 q e
                | inr e => exact m2.sat q e)
              (fok := m2.fok)
              (elt := fun q hq => by
                cases List.mem_append.mp hq with
                | inl e => exact nv2 q e
                | inr e => exact Nat.lt_of_lt_of_le (m.elt q e) le)
              (clt := sx_Clt_mono le m.clt)
              (olt := fun q hq => by
                cases List.mem_append.mp hq with
                | inl e => exact sx_sbo_lt hvn ho q e
                | inr e => exact sx_Olt_mono le m1.olt q e)
              (flt := sx_flt_mono le m.flt)
              (klt := fun f hf => sx_flt_mono le (m.klt f hf))
              (ook := fun q hq => by
                cases List.mem_append.mp hq with
                | inl e => exact sx_sbo2 hvl ho z4 q e
                | inr e => exact m2.ook q e)
              (typ := m1.typ) (frm := m1.frm) (lsm := m2.lsm) (stm := m2.stm) (ksm := m2.ksm) (tbm := m1.tbm)
          exact ⟨_, hs0, Kc, ls, x :: st.drop n, w1, ⟨p', ag, le, sx_to_ok mm (sx_memc (sx_sbv_lt hvn hv) (fun v hv => sx_vlt_mono le (hf2 v hv))) ⟨sx_sbv2 hvl hv z3, sx_sm_agree ag hf2 hm2⟩⟩, fun Post => hcal Post⟩
        · cases hans
      | nil =>
       rw [hra] at h hrt0
       have h : (match c.rt with
          | none => some [sx_to (S.n, S.E, S.C, sx_kpm S.E S.C c.md S.O, S.k, S.fr, S.K) nx (S.fr.st.drop n)]
          | some (.inl (lo, hi)) => some [sx_psh (S.n, S.E, S.C, sx_kpm S.E S.C c.md S.O, S.k, S.fr, S.K) nx (S.fr.st.drop n) (.inr (false, lo, hi))]
          | some (.inr (.inl ())) => some [sx_psh (S.n, S.E, S.C, sx_kpm S.E S.C c.md S.O, S.k, S.fr, S.K) nx (S.fr.st.drop n) (sx_zf true)]
          | _ => none) = some l := h
       have hrt : sx_rtm c.rt r := hrt0
       unfold sx_rtm at hrt
       cases hrr : c.rt with
       | none =>
         rw [hrr] at h hrt
         cases h
         cases r with
         | some x => exact hrt.elim
         | none => exact ⟨_, List.mem_singleton.mpr rfl, Kc, ls, st.drop n, w1, ⟨p, fun _ _ => rfl, Nat.le_refl _, sx_to_ok m1 hf2 hm2⟩, hcal⟩
       | some ft =>
         rw [hrr] at h hrt
         cases r with
         | none => exact hrt.elim
         | some x =>
           have hrt : sx_fok ft x := hrt
           rcases ft with ⟨lo, hi⟩ | _ | k | _
           ·
             cases h
             match x, hrt with
             | .int y, hrt =>
               obtain ⟨e1, e2, e3⟩ := sx_psh_k (S.n, S.E, S.C, sx_kpm S.E S.C c.md S.O, S.k, S.fr, S.K) nx (S.fr.st.drop n) (.inr (false, lo, hi))
               refine ⟨_, List.mem_singleton.mpr rfl, Kc, ls, .int y :: st.drop n, w1, sx_psh_ok (q := .inr (false, lo, hi)) m1 hf2 hm2 trivial ⟨y, rfl, hrt.1, hrt.2⟩, fun Post => ?_⟩
               rw [e1, e2, e3]
               exact hcal Post
           ·
             cases h
             match x, hrt with
             | .long y, hrt =>
               obtain ⟨e1, e2, e3⟩ := sx_psh_k (S.n, S.E, S.C, sx_kpm S.E S.C c.md S.O, S.k, S.fr, S.K) nx (S.fr.st.drop n) (sx_zf true)
               refine ⟨_, List.mem_singleton.mpr rfl, Kc, ls, .long y :: st.drop n, w1, sx_psh_ok (q := sx_zf true) m1 hf2 hm2 trivial (sx_full64 p y), fun Post => ?_⟩
               rw [e1, e2, e3]
               exact hcal Post
           · cases h
           · cases h
    · split at h
      · rename_i M k hM hk
        obtain ⟨hb4, h⟩ := sx_bif h
        cases h
        rw [Bool.and_eq_true] at hb4
        refine ⟨_, List.mem_singleton.mpr rfl, (S.fr.M, nx, ls, st.drop n) :: Kc, lv_args 0 (st.take n).reverse, [], w, ⟨p, fun _ _ => rfl, Nat.le_refl _, (sx_mkMt (sat := m.sat) (fok := m.fok) (elt := m.elt) (clt := m.clt) (olt := m.olt) (flt := ⟨sx_args_lt hf1, fun v hv => by cases hv⟩) (klt := ?_) (ook := m.ook) (typ := m.typ) (frm := m.frm) (lsm := sx_args_ok hma) (stm := trivial) (ksm := ⟨⟨rfl, rfl, m.lsm, hm2⟩, m.ksm⟩) (tbm := ⟨hM, fun f hf => ?_⟩))⟩, fun Post hok => ?_⟩
        · intro f hf
          cases List.mem_cons.mp hf with
          | inl e => rw [e]; exact ⟨m.flt.1, hf2⟩
          | inr e => exact m.klt f e
        · cases List.mem_cons.mp hf with
          | inl e => rw [e]; exact m.tbm.1
          | inr e => exact m.tbm.2 f e
        · rw [hk]
          refine sx_inl hq hlen hsum hlim rfl hM ?_ hok
          rw [Bool.and_eq_true]
          refine ⟨?_, sx_rcv_ok hb4.2 hma m.typ⟩
          rw [sx_ssum_ok hma, sx_ssum_rev]
          exact hb4.1
      · cases h
  · cases h
end SXG
