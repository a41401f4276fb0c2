/-! numbers of sheets, told exactly -/
noncomputable def pn_G (a i W S : Int) : Prop := ¬ (a < 0 ∨ 3 < a) ∧ W ≠ 0 ∧ ¬ (i < 0 ∨ S ≤ i)
noncomputable def pn_V (W v : Int) : Int := if W = 8 then v.bmod 256 else if W = 16 then v.bmod 65536 else v
noncomputable def pn_R (A0 : sx_A) (cw cs cn : Nat) (a i v : Int) (w : pq_W) (res : pq_R) : Prop := (¬ pn_G a i (sy_r w cw a.toNat) (sy_r w cs a.toNat) ∧ sx_Fr A0 w res.2) ∨ (pn_G a i (sy_r w cw a.toNat) (sy_r w cs a.toNat) ∧ sx_Fr [(cn, ((24 * a.toNat + i.toNat : Nat) : Int), ((24 * a.toNat + i.toNat : Nat) : Int))] w res.2 ∧ sy_r res.2 cn (24 * a.toNat + i.toNat) = pn_V (sy_r w cw a.toNat) v)
theorem pn_gen {A0 : sx_A} {j : Nat} {M : pq_M} {r0 cw cs cn : Nat} (f1 : pn_f1 A0 j M r0 = true) (f2 : pn_f2 A0 j M r0 cw = true) (f3 : pn_f3 A0 j M r0 cw cs = true) (k8 : pn_k j M r0 cw cs cn 8 = true) (k16 : pn_k j M r0 cw cs cn 16 = true) (k32 : pn_k j M r0 cw cs cn 32 = true) (hM : pq_tab[j]? = some M) (xa xi xv : Int32) {w : pq_W} (ht : sx_Ty sx_T0 w) (hw : ∀ s, s < 4 → sh_wd (sy_r w cw s)) (hs : ∀ s, s < 4 → 0 ≤ sy_r w cs s ∧ sy_r w cs s ≤ 24) : ∃ res, pq_Go 299 M 0 (lv_args 0 [.ref r0, .int xa, .int xi, .int xv]) [] w 0 0 res ∧ pn_R A0 cw cs cn xa.toInt xi.toInt xv.toInt w res := by
  have ra := sh_i32 xa
  have ri := sh_i32 xi
  have rv := sh_i32 xv
  by_cases hA : xa.toInt < 0 ∨ 3 < xa.toInt
  · obtain ⟨i, m, l1, l2⟩ := sh_outm ra hA
    obtain ⟨res, g, t, f, z, hz, q⟩ := sh_one (ls := lv_args 0 [.ref r0, .int xa, .int xi, .int xv]) (fx_p [xa.toInt, xi.toInt, xv.toInt]) (List.all_eq_true.mp f1 i m) hM ⟨l1, l2, ri.1, ri.2, rv.1, rv.2, trivial⟩ ⟨rfl, ng_iy ⟨xa, rfl, rfl⟩ rfl, ng_iy ⟨xi, rfl, rfl⟩ rfl, ng_iy ⟨xv, rfl, rfl⟩ rfl, trivial⟩ trivial ht
    exact ⟨res, g, Or.inl ⟨fun h => h.1 hA, f⟩⟩
  obtain ⟨a, ea⟩ : ∃ a : Nat, (a : Int) = xa.toInt := ⟨xa.toInt.toNat, by omega⟩
  have ha : a < 4 := by omega
  have eat : xa.toInt.toNat = a := by omega
  have ma : a ∈ List.range 4 := List.mem_range.mpr ha
  have hsa := hs a ha
  unfold pn_R
  rw [eat]
  by_cases h0 : sy_r w cw a = 0
  · obtain ⟨res, g, t, f, z, hz, q⟩ := sh_one (ls := lv_args 0 [.ref r0, .int xa, .int xi, .int xv]) (fx_p [xi.toInt, xv.toInt]) (List.all_eq_true.mp f2 a ma) hM ⟨ri.1, ri.2, rv.1, rv.2, trivial⟩ ⟨rfl, ng_ik ⟨xa, rfl, rfl⟩ ea.symm, ng_iy ⟨xi, rfl, rfl⟩ rfl, ng_iy ⟨xv, rfl, rfl⟩ rfl, trivial⟩ (sh_eo (n := a) (by rw [ng_ek]; exact h0) rfl trivial) ht
    exact ⟨res, g, Or.inl ⟨fun h => h.2.1 h0, f⟩⟩
  have hwa := (hw a ha).resolve_left h0
  have hw1 : 1 ≤ sy_r w cw a ∧ sy_r w cw a ≤ 32 := by
    rcases hwa with h | h | h <;> omega
  by_cases hI : xi.toInt < 0 ∨ sy_r w cs a ≤ xi.toInt
  · have bad : ∀ z ∈ pn_b, (z.1.1 ≤ xi.toInt ∧ xi.toInt ≤ z.1.2) → ng_fs (fx_p [xi.toInt, xv.toInt, sy_r w cs a, sy_r w cw a]) z.2 → ∃ res, pq_Go 299 M 0 (lv_args 0 [.ref r0, .int xa, .int xi, .int xv]) [] w 0 0 res ∧ sx_Fr A0 w res.2 := by
      intro z hz h1 h2
      obtain ⟨res, g, t, f, _⟩ := sh_onc (ls := lv_args 0 [.ref r0, .int xa, .int xi, .int xv]) (fx_p [xi.toInt, xv.toInt, sy_r w cs a, sy_r w cw a]) (List.all_eq_true.mp (List.all_eq_true.mp f3 a ma) z hz) hM ⟨h1.1, h1.2, rv.1, rv.2, hsa.1, hsa.2, hw1.1, hw1.2, trivial⟩ h2 ⟨rfl, ng_ik ⟨xa, rfl, rfl⟩ ea.symm, ng_iy ⟨xi, rfl, rfl⟩ rfl, ng_iy ⟨xv, rfl, rfl⟩ rfl, trivial⟩ (sh_eo (n := a) (by rw [sx_y_ev]; rfl) rfl (sh_eo (n := a) (by rw [sx_y_ev]; rfl) rfl trivial)) ht
      exact ⟨res, g, f⟩
    by_cases c : xi.toInt < 0
    · obtain ⟨res, g, f⟩ := bad _ List.mem_cons_self ⟨ri.1, by show xi.toInt ≤ -1; omega⟩ trivial
      exact ⟨res, g, Or.inl ⟨fun h => h.2.2 hI, f⟩⟩
    · obtain ⟨res, g, f⟩ := bad _ (List.mem_cons_of_mem _ List.mem_cons_self) ⟨by show 0 ≤ xi.toInt; omega, ri.2⟩ ⟨by show 0 + (-1 * xi.toInt + (1 * sy_r w cs a + 0)) ≤ 0; omega, trivial⟩
      exact ⟨res, g, Or.inl ⟨fun h => h.2.2 hI, f⟩⟩
  obtain ⟨i, ei⟩ : ∃ i : Nat, (i : Int) = xi.toInt := ⟨xi.toInt.toNat, by omega⟩
  have hi : i < 24 := by omega
  have eit : xi.toInt.toNat = i := by omega
  have mi : i ∈ List.range 24 := List.mem_range.mpr hi
  rw [eit]
  rcases hwa with h | h | h
  · have d0 := Int.bdiv_add_bmod xv.toInt 256
    have d1 := Int.le_bmod (x := xv.toInt) (m := 256) (by decide)
    have d2 := Int.bmod_lt (x := xv.toInt) (m := 256) (by decide)
    generalize e3 : Int.bdiv xv.toInt 256 = q3 at *
    generalize e4 : Int.bmod xv.toInt 256 = q4 at *
    obtain ⟨res, g, t, f, z, hz, q⟩ := sh_onc (ls := lv_args 0 [.ref r0, .int xa, .int xi, .int xv]) (fx_p [q3, q4, sy_r w cs a]) (List.all_eq_true.mp (List.all_eq_true.mp k8 a ma) i mi) hM ⟨(show (-8388608 : Int) ≤ q3 by omega), (show q3 ≤ (8388608 : Int) by omega), (show (-128 : Int) ≤ q4 by omega), (show q4 ≤ (127 : Int) by omega), hsa.1, hsa.2, trivial⟩ ⟨by show (i : Int) + 1 + (-1 * sy_r w cs a + 0) ≤ 0; omega, trivial⟩ ⟨rfl, ng_ik ⟨xa, rfl, rfl⟩ ea.symm, ng_ik ⟨xi, rfl, rfl⟩ ei.symm, ⟨xv, rfl, (by show xv.toInt = 0 + (256 * q3 + (1 * q4 + 0)); omega)⟩, trivial⟩ (sh_eo (n := a) (by rw [ng_ek]; exact h) rfl (sh_eo (n := a) (by rw [sx_y_ev]; rfl) rfl trivial)) ht
    cases List.mem_singleton.mp hz
    obtain ⟨v, _⟩ := sh_oe (n := 24 * a + i) q.2.1 rfl
    rw [sx_y_ev] at v
    refine ⟨res, g, Or.inr ⟨⟨hA, h0, hI⟩, f, ?_⟩⟩
    rw [h]
    unfold pn_V
    rw [if_pos rfl]
    exact v.trans e4.symm
  · have d0 := Int.bdiv_add_bmod xv.toInt 65536
    have d1 := Int.le_bmod (x := xv.toInt) (m := 65536) (by decide)
    have d2 := Int.bmod_lt (x := xv.toInt) (m := 65536) (by decide)
    generalize e3 : Int.bdiv xv.toInt 65536 = q3 at *
    generalize e4 : Int.bmod xv.toInt 65536 = q4 at *
    obtain ⟨res, g, t, f, z, hz, q⟩ := sh_onc (ls := lv_args 0 [.ref r0, .int xa, .int xi, .int xv]) (fx_p [q3, q4, sy_r w cs a]) (List.all_eq_true.mp (List.all_eq_true.mp k16 a ma) i mi) hM ⟨(show (-32768 : Int) ≤ q3 by omega), (show q3 ≤ (32768 : Int) by omega), (show (-32768 : Int) ≤ q4 by omega), (show q4 ≤ (32767 : Int) by omega), hsa.1, hsa.2, trivial⟩ ⟨by show (i : Int) + 1 + (-1 * sy_r w cs a + 0) ≤ 0; omega, trivial⟩ ⟨rfl, ng_ik ⟨xa, rfl, rfl⟩ ea.symm, ng_ik ⟨xi, rfl, rfl⟩ ei.symm, ⟨xv, rfl, (by show xv.toInt = 0 + (65536 * q3 + (1 * q4 + 0)); omega)⟩, trivial⟩ (sh_eo (n := a) (by rw [ng_ek]; exact h) rfl (sh_eo (n := a) (by rw [sx_y_ev]; rfl) rfl trivial)) ht
    cases List.mem_singleton.mp hz
    obtain ⟨v, _⟩ := sh_oe (n := 24 * a + i) q.2.1 rfl
    rw [sx_y_ev] at v
    refine ⟨res, g, Or.inr ⟨⟨hA, h0, hI⟩, f, ?_⟩⟩
    rw [h]
    unfold pn_V
    rw [if_neg (by decide), if_pos rfl]
    exact v.trans e4.symm
  · obtain ⟨res, g, t, f, z, hz, q⟩ := sh_onc (ls := lv_args 0 [.ref r0, .int xa, .int xi, .int xv]) (fx_p [0, xv.toInt, sy_r w cs a]) (List.all_eq_true.mp (List.all_eq_true.mp k32 a ma) i mi) hM ⟨(by decide : (0 : Int) ≤ 0), (by decide : (0 : Int) ≤ 0), rv.1, rv.2, hsa.1, hsa.2, trivial⟩ ⟨by show (i : Int) + 1 + (-1 * sy_r w cs a + 0) ≤ 0; omega, trivial⟩ ⟨rfl, ng_ik ⟨xa, rfl, rfl⟩ ea.symm, ng_ik ⟨xi, rfl, rfl⟩ ei.symm, ng_iy ⟨xv, rfl, rfl⟩ rfl, trivial⟩ (sh_eo (n := a) (by rw [ng_ek]; exact h) rfl (sh_eo (n := a) (by rw [sx_y_ev]; rfl) rfl trivial)) ht
    cases List.mem_singleton.mp hz
    obtain ⟨v, _⟩ := sh_oe (n := 24 * a + i) q.2.1 rfl
    rw [sx_y_ev] at v
    refine ⟨res, g, Or.inr ⟨⟨hA, h0, hI⟩, f, ?_⟩⟩
    rw [h]
    unfold pn_V
    rw [if_neg (by decide), if_neg (by decide)]
    exact v
/-- sheet, where it is done: its numbers are 0 -/
theorem sz_of {cn a : Nat} {p : Nat → Int} {w : pq_W} : ∀ {l : List Nat}, ng_eqs p w (l.map fun (t : Nat) => sh_o cn (24 * a + t : Nat) (fx_k 0)) → ∀ t ∈ l, sy_r w cn (24 * a + t) = 0
  | [], _, t, ht => by cases ht
  | s :: l, h, t, ht => by
    obtain ⟨e1, e2⟩ := sh_oe (n := 24 * a + s) h rfl
    rw [ng_ek] at e1
    rcases List.mem_cons.mp ht with rfl | ht
    · exact e1
    · exact sz_of e2 t ht
theorem sz_gen {j : Nat} {M : pq_M} {r0 cw cs cn : Nat} (k0 : sz_k j M r0 cw cs cn 0 sy_full = true) (k8 : sz_k j M r0 cw cs cn 8 (0, 24) = true) (k16 : sz_k j M r0 cw cs cn 16 (0, 24) = true) (k32 : sz_k j M r0 cw cs cn 32 (0, 24) = true) (hM : pq_tab[j]? = some M) (xa xb xn : Int32) {a : Nat} (ha : a < 4) (ea : (a : Int) = xa.toInt) (hb : xb.toInt = 0 ∨ xb.toInt = 8 ∨ xb.toInt = 16 ∨ xb.toInt = 32) (hn : xb.toInt ≠ 0 → 0 ≤ xn.toInt ∧ xn.toInt ≤ 24) {w : pq_W} (ht : sx_Ty sx_T0 w) : ∃ res, pq_Go 299 M 0 (lv_args 0 [.ref r0, .int xa, .int xb, .int xn]) [] w 0 0 res ∧ sx_Fr [(cw, (a : Int), (a : Int)), (cs, (a : Int), (a : Int)), (cn, ((24 * a : Nat) : Int), ((24 * a + 23 : Nat) : Int))] w res.2 ∧ ∀ t, t < 24 → sy_r res.2 cn (24 * a + t) = 0 := by
  have rn := sh_i32 xn
  have ma : a ∈ List.range 4 := List.mem_range.mpr ha
  have go : ∀ {b : Int} {iv : Int × Int}, sz_k j M r0 cw cs cn b iv = true → xb.toInt = b → iv.1 ≤ xn.toInt → xn.toInt ≤ iv.2 → ∃ res, pq_Go 299 M 0 (lv_args 0 [.ref r0, .int xa, .int xb, .int xn]) [] w 0 0 res ∧ sx_Fr [(cw, (a : Int), (a : Int)), (cs, (a : Int), (a : Int)), (cn, ((24 * a : Nat) : Int), ((24 * a + 23 : Nat) : Int))] w res.2 ∧ ∀ t, t < 24 → sy_r res.2 cn (24 * a + t) = 0 := by
    intro b iv hk e1 e2 e3
    obtain ⟨res, g, t, f, z, hz, q⟩ := sh_one (ls := lv_args 0 [.ref r0, .int xa, .int xb, .int xn]) (fx_p [xn.toInt]) (List.all_eq_true.mp hk a ma) hM ⟨e2, e3, trivial⟩ ⟨rfl, ng_ik ⟨xa, rfl, rfl⟩ ea.symm, ng_ik ⟨xb, rfl, rfl⟩ e1, ng_iy ⟨xn, rfl, rfl⟩ rfl, trivial⟩ trivial ht
    cases List.mem_singleton.mp hz
    exact ⟨res, g, f, fun t ht => sz_of q.2.1 t (List.mem_range.mpr ht)⟩
  by_cases c : xb.toInt = 0
  · exact go k0 c rn.1 rn.2
  · have h := hn c
    rcases hb with hb | hb | hb | hb
    · exact absurd hb c
    · exact go k8 hb h.1 h.2
    · exact go k16 hb h.1 h.2
    · exact go k32 hb h.1 h.2
