/-! the cells as far as sheet needs them -/
def t34 : List sx_ct := [.inr (.inl (FieldType.int, 6, [])), .inl (10, [.inr (.inr (.inl 2)), .inr (.inr (.inl 11)), .inr (.inr (.inl 19)), .inr (.inr (.inl 25)), .inr (.inr (.inl 36)), .inr (.inr (.inl 45)), .inr (.inr (.inl 53)), .inr (.inr (.inl 59)), .inr (.inr (.inl 70)), .inr (.inr (.inl 73)), .inr (.inr (.inl 76)), .inr (.inr (.inl 79)), .inr (.inr (.inl 83)), .inr (.inr (.inl 85)), .inr (.inr (.inl 89)), .inl ((-2147483648), 2147483647)]), .inr (.inr (.inr ())), .inr (.inr (.inr ())), .inr (.inr (.inr ())), .inr (.inr (.inr ())), .inr (.inr (.inr ())), .inr (.inr (.inr ())), .inr (.inr (.inr ())), .inr (.inr (.inr ())), .inr (.inr (.inr ())), .inr (.inr (.inr ())), .inr (.inr (.inr ())), .inr (.inr (.inr ())), .inr (.inr (.inr ())), .inr (.inr (.inr ())), .inr (.inr (.inr ())), .inr (.inr (.inr ())), .inr (.inr (.inr ())), .inr (.inr (.inr ())), .inr (.inr (.inr ())), .inr (.inr (.inr ())), .inr (.inr (.inr ())), .inr (.inr (.inr ())), .inr (.inr (.inr ())), .inr (.inr (.inr ())), .inr (.inr (.inr ())), .inr (.inr (.inr ())), .inr (.inr (.inr ())), .inr (.inr (.inr ())), .inr (.inr (.inr ())), .inr (.inr (.inr ())), .inr (.inr (.inr ())), .inr (.inr (.inr ())), .inr (.inr (.inr ())), .inr (.inr (.inr ())), .inr (.inr (.inr ())), .inr (.inr (.inr ())), .inr (.inr (.inr ())), .inr (.inr (.inr ())), .inr (.inr (.inr ())), .inr (.inr (.inr ())), .inr (.inr (.inr ())), .inr (.inr (.inr ())), .inr (.inr (.inr ())), .inr (.inr (.inr ())), .inr (.inr (.inr ())), .inr (.inr (.inr ())), .inr (.inr (.inr ())), .inr (.inr (.inr ())), .inr (.inr (.inr ())), .inr (.inr (.inr ())), .inr (.inr (.inr ())), .inr (.inr (.inr ())), .inr (.inr (.inr ())), .inr (.inr (.inr ())), .inr (.inr (.inr ())), .inr (.inr (.inr ())), .inr (.inr (.inr ())), .inr (.inr (.inr ())), .inr (.inr (.inr ())), .inr (.inr (.inr ())), .inr (.inr (.inr ())), .inr (.inr (.inr ())), .inr (.inr (.inr ())), .inr (.inr (.inr ())), .inr (.inr (.inr ())), .inr (.inr (.inr ())), .inr (.inr (.inr ())), .inr (.inr (.inr ())), .inr (.inr (.inr ())), .inr (.inr (.inr ())), .inr (.inr (.inr ())), .inr (.inr (.inr ())), .inr (.inr (.inr ())), .inr (.inr (.inr ())), .inr (.inr (.inr ())), .inr (.inr (.inr ())), .inr (.inr (.inr ())), .inr (.inr (.inr ())), .inr (.inr (.inr ())), .inr (.inr (.inr ())), .inr (.inr (.inr ())), .inr (.inr (.inr ())), .inr (.inr (.inr ())), .inl (6, [.inr (.inr (.inl 86)), .inr (.inr (.inl 87)), .inr (.inr (.inl 88))]), .inr (.inl (FieldType.int, 4, [])), .inr (.inl (FieldType.int, 96, [])), .inr (.inl (FieldType.int, 4, [])), .inr (.inl (FieldType.int, 6, [])), .inl (11, [.inr (.inr (.inl 91)), .inr (.inr (.inl 92)), .inl ((-2147483648), 2147483647), .inr (.inr (.inl 93)), .inr (.inr (.inl 94)), .inr (.inr (.inl 95)), .inr (.inr (.inl 96)), .inr (.inr (.inl 97)), .inl ((-2147483648), 2147483647), .inr (.inr (.inl 98)), .inr (.inr (.inl 99)), .inl ((-2147483648), 2147483647), .inl ((-2147483648), 2147483647), .inl ((-2147483648), 2147483647), .inr (.inr (.inl 100)), .inl ((-2147483648), 2147483647), .inr (.inr (.inl 101)), .inr (.inr (.inl 102)), .inr (.inr (.inl 103)), .inr (.inr (.inl 104)), .inr (.inr (.inl 105)), .inr (.inr (.inl 106)), .inr (.inr (.inl 107)), .inr (.inr (.inl 108)), .inl ((-2147483648), 2147483647), .inr (.inr (.inl 109))]), .inr (.inr (.inr ())), .inr (.inr (.inr ())), .inr (.inl (FieldType.int, 6, [])), .inr (.inl (FieldType.int, 4, [])), .inr (.inl (FieldType.int, 4, [])), .inr (.inl (FieldType.int, 96, [])), .inr (.inr (.inr ())), .inr (.inr (.inr ())), .inr (.inr (.inr ())), .inr (.inr (.inr ())), .inr (.inr (.inr ())), .inr (.inr (.inr ())), .inr (.inr (.inr ())), .inr (.inr (.inr ())), .inr (.inr (.inr ())), .inr (.inr (.inr ())), .inr (.inr (.inr ())), .inr (.inr (.inr ())), .inr (.inr (.inr ()))]
def p34 : sx_P := (t34, [(86, 0, 3), (87, 0, 95), (88, 0, 3), (89, 0, 5), (93, 0, 5), (94, 0, 3), (95, 0, 3), (96, 0, 95)], [], [(58, [(10, ([(4, false, 0, 96)], [(87, none)], false, [], 4, true))]), (241, [(82, ([(4, false, 0, 24)], [(96, none)], false, [], 4, true))])])
def po34 (c : Int) : sx_S → Option sx_V → Bool := fun _ rv => match rv with
  | some (.inl (.inl e)) => sx_feq e (sx_k c)
  | _ => false
def a34 (r : Nat) (i1 i2 i3 : Int × Int) : List sx_ft := [.inr (.inr (.inl r)), .inl (i1.1, i1.2), .inl (i2.1, i2.2), .inl (i3.1, i3.2)]
noncomputable def k34 (i1 i2 i3 : Int × Int) (c : Int) : Bool := sx_chk p34 (po34 c) 300 [] (sx_beg p34 18 139 pm_139 (a34 1 i1 i2 i3)) && sx_chk p34 (po34 c) 300 [] (sx_beg p34 18 241 pm_241 (a34 90 i1 i2 i3))
def sx_fsok : List sx_ft → List Value → Prop
  | [], [] => True
  | a :: r, x :: s => sx_fok a x ∧ sx_fsok r s
  | _, _ => False
theorem sx_fsok_ok : ∀ {fs : List sx_ft} {vs : List Value}, sx_fsok fs vs → vs.length = fs.length ∧ ∀ (i : Nat) t v, fs[i]? = some t → vs[i]? = some v → sx_fok t v
  | [], [], _ => ⟨rfl, fun i t v h => by cases h⟩
  | a :: r, x :: s, h => by
    obtain ⟨h1, h2⟩ := sx_fsok_ok h.2
    refine ⟨by rw [List.length_cons, List.length_cons, h1], fun i t v g1 g2 => ?_⟩
    cases i with
    | zero => cases g1; cases g2; exact h.1
    | succ i => exact h2 i t v g1 g2
  | [], _ :: _, h => h.elim
  | _ :: _, [], h => h.elim
def sx_tys : List sx_ct → List pq_C → Prop
  | [], [] => True
  | t :: r, c :: s => sx_cok t c ∧ sx_tys r s
  | _, _ => False
theorem sx_tys_ok : ∀ {T : List sx_ct} {w : pq_W}, sx_tys T w → sx_Ty T w
  | [], [], _ => ⟨rfl, fun r t c h => by cases h⟩
  | t :: T, c :: w, h => by
    obtain ⟨h1, h2⟩ := sx_tys_ok h.2
    refine ⟨by rw [List.length_cons, List.length_cons, h1], fun r t2 c2 g1 g2 => ?_⟩
    cases r with
    | zero => cases g1; cases g2; exact h.1
    | succ r => exact h2 r t2 c2 g1 g2
  | [], _ :: _, h => h.elim
  | _ :: _, [], h => h.elim
theorem sx_ocok {ci : Nat} {fs : List sx_ft} {vs : List Value} (h : sx_fsok fs vs) : sx_cok (.inl (ci, fs)) (.inr (ci, vs)) := ⟨rfl, sx_fsok_ok h⟩
theorem sx_zf0 : (-2147483648 : Int) ≤ (0 : Int32).toInt ∧ (0 : Int32).toInt ≤ 2147483647 := by decide
theorem ty34 (a0 a1 a2 a3 a4 a5 : Int32) : sx_Ty t34 (fw (sz a0 a1 a2 a3 a4 a5)) := sx_tys_ok ⟨⟨rfl, rfl, fun g hg => (by cases hg)⟩, sx_ocok ⟨rfl, rfl, rfl, rfl, rfl, rfl, rfl, rfl, rfl, rfl, rfl, rfl, rfl, rfl, rfl, sx_zf0, trivial⟩, trivial, trivial, trivial, trivial, trivial, trivial, trivial, trivial, trivial, trivial, trivial, trivial, trivial, trivial, trivial, trivial, trivial, trivial, trivial, trivial, trivial, trivial, trivial, trivial, trivial, trivial, trivial, trivial, trivial, trivial, trivial, trivial, trivial, trivial, trivial, trivial, trivial, trivial, trivial, trivial, trivial, trivial, trivial, trivial, trivial, trivial, trivial, trivial, trivial, trivial, trivial, trivial, trivial, trivial, trivial, trivial, trivial, trivial, trivial, trivial, trivial, trivial, trivial, trivial, trivial, trivial, trivial, trivial, trivial, trivial, trivial, trivial, trivial, trivial, trivial, trivial, trivial, trivial, trivial, trivial, trivial, trivial, trivial, sx_ocok ⟨rfl, rfl, rfl, trivial⟩, ⟨rfl, rfl, fun g hg => (by cases hg)⟩, ⟨rfl, rfl, fun g hg => (by cases hg)⟩, ⟨rfl, rfl, fun g hg => (by cases hg)⟩, ⟨rfl, rfl, fun g hg => (by cases hg)⟩, sx_ocok ⟨rfl, rfl, sx_zf0, rfl, rfl, rfl, rfl, rfl, sx_zf0, rfl, rfl, sx_zf0, sx_zf0, sx_zf0, rfl, sx_zf0, rfl, rfl, rfl, rfl, rfl, rfl, rfl, rfl, sx_zf0, rfl, trivial⟩, trivial, trivial, ⟨rfl, rfl, fun g hg => (by cases hg)⟩, ⟨rfl, rfl, fun g hg => (by cases hg)⟩, ⟨rfl, rfl, fun g hg => (by cases hg)⟩, ⟨rfl, rfl, fun g hg => (by cases hg)⟩, trivial, trivial, trivial, trivial, trivial, trivial, trivial, trivial, trivial, trivial, trivial, trivial, trivial, trivial⟩
theorem ru34 {w : pq_W} {a1 a2 a3 : Int32} {i1 i2 i3 : Int × Int} {c : Int} (ht : sx_Ty t34 w) (hk : k34 i1 i2 i3 c = true) (h1 : i1.1 ≤ a1.toInt ∧ a1.toInt ≤ i1.2) (h2 : i2.1 ≤ a2.toInt ∧ a2.toInt ≤ i2.2) (h3 : i3.1 ≤ a3.toInt ∧ a3.toInt ≤ i3.2) : (∃ x w1, pq_Ru 19 139 [.ref 1, .int a1, .int a2, .int a3] w (some (.int x), w1) ∧ x.toInt = c ∧ sx_Ty t34 w1 ∧ sx_Fr p34.A w w1) ∧ ∃ x w1, pq_Ru 19 241 [.ref 90, .int a1, .int a2, .int a3] w (some (.int x), w1) ∧ x.toInt = c ∧ sx_Ty t34 w1 ∧ sx_Fr p34.A w w1 := by
  unfold k34 at hk
  rw [Bool.and_eq_true] at hk
  have hpo : ∀ (N : Nat) (p0 : Nat → Int) S p ls st w2 rv r, po34 c S rv = true → (∀ s, s < N → p s = p0 s) → sx_Mt p34.T p34.A w p S [] ls st w2 → sx_rvm p rv r → (fun res : pq_R => ∃ x, res.1 = some (.int x) ∧ x.toInt = c ∧ sx_Ty t34 res.2 ∧ sx_Fr p34.A w res.2) (r, w2) := by
    intro N p0 S p ls st w2 rv r g1 _ m g2
    unfold po34 at g1
    split at g1
    · rename_i e
      match r, g2 with
      | some (.int x), g2 =>
        have g2 : x.toInt = sx_ev p e := g2
        rw [sx_feq_ok g1, sx_k_ev] at g2
        exact ⟨x, rfl, g2, m.typ, m.frm⟩
    · cases g1
  constructor
  · obtain ⟨r, w1, g1, x, g2, g3⟩ := sx_meth (P := p34) (w0 := w) (J := fun _ => True) (po := po34 c) (Post := fun res : pq_R => ∃ x, res.1 = some (.int x) ∧ x.toInt = c ∧ sx_Ty t34 res.2 ∧ sx_Fr p34.A w res.2) (as := a34 1 i1 i2 i3) (xs := [.ref 1, .int a1, .int a2, .int a3]) (fun q hq => by cases hq) (fun _ _ _ => trivial) (M := pm_139) (j := 139) rfl rfl ⟨rfl, h1, h2, h3, trivial⟩ ht (hpo _ _) hk.1
    have g2 : r = some (.int x) := g2
    subst g2
    exact ⟨x, w1, g1, g3⟩
  · obtain ⟨r, w1, g1, x, g2, g3⟩ := sx_meth (P := p34) (w0 := w) (J := fun _ => True) (po := po34 c) (Post := fun res : pq_R => ∃ x, res.1 = some (.int x) ∧ x.toInt = c ∧ sx_Ty t34 res.2 ∧ sx_Fr p34.A w res.2) (as := a34 90 i1 i2 i3) (xs := [.ref 90, .int a1, .int a2, .int a3]) (fun q hq => by cases hq) (fun _ _ _ => trivial) (M := pm_241) (j := 241) rfl rfl ⟨rfl, h1, h2, h3, trivial⟩ ht (hpo _ _) hk.2
    have g2 : r = some (.int x) := g2
    subst g2
    exact ⟨x, w1, g1, g3⟩
theorem lf34 (a0 a1 a2 a3 a4 a5 : Int32) {i1 i2 i3 : Int × Int} {c : Int} (hk : k34 i1 i2 i3 c = true) (h1 : i1.1 ≤ a1.toInt ∧ a1.toInt ≤ i1.2) (h2 : i2.1 ≤ a2.toInt ∧ a2.toInt ≤ i2.2) (h3 : i3.1 ≤ a3.toInt ∧ a3.toInt ≤ i3.2) : ∃ w', pq_Go 20 pm_law 1446 [(3, .int 0), (2, .ref 90), (1, .ref 1), (0, .ref 0)] [] (fw (sz a0 a1 a2 a3 a4 a5)) 109 12668 (some (.int 1), w') := by
  obtain ⟨⟨x, w1, k1, k2, k3, k4⟩, _⟩ := ru34 (ty34 a0 a1 a2 a3 a4 a5) hk h1 h2 h3
  obtain ⟨_, ⟨y, w2, l1, l2, l3, l4⟩⟩ := ru34 k3 hk h1 h2 h3
  have exy : y = x := Int32.toInt_inj.mp (by rw [k2, l2])
  subst exy
  obtain ⟨f, hf, _⟩ := sx_arr k3 (show t34[0]? = some (.inr (.inl (FieldType.int, 6, []))) from rfl)
  obtain ⟨g, hg, _⟩ := sx_arr l3 (show t34[0]? = some (.inr (.inl (FieldType.int, 6, []))) from rfl)
  have hfi : ∀ i, i < 6 → f i = sc a0 a1 a2 a3 a4 a5 i := by
    intro i hi
    have e := k4 0 i (by rintro ⟨q, hq, e, _⟩; exact absurd e ((by decide : ∀ q ∈ p34.A, ¬ q.1 = 0) q hq))
    rw [sx_wg_of hf] at e
    have e : (if i < 6 then some (Value.int (f i)) else none) = (if i < 6 then some (Value.int (sc a0 a1 a2 a3 a4 a5 i)) else none) := e
    rw [if_pos hi, if_pos hi] at e
    exact Value.int.inj (Option.some.inj e)
  refine ⟨w2, ?_⟩
  refine go_seg 8 (pc' := 1454) (ls' := [(3, .int 0), (2, .ref 90), (1, .ref 1), (0, .ref 0)]) (st' := [.int 0, .ref 0, .int a1, .ref 1]) (w' := (fw (sz a0 a1 a2 a3 a4 a5))) (cs' := 109) (ss' := 12668) ?_ (fun _ _ => rfl)
  refine go_seg 8 (pc' := 1462) (ls' := [(3, .int 0), (2, .ref 90), (1, .ref 1), (0, .ref 0)]) (st' := [.int a3, .int a2, .int a1, .ref 1]) (w' := (fw (sz a0 a1 a2 a3 a4 a5))) (cs' := 109) (ss' := 12668) ?_ (fun _ _ => rfl)
  refine go_cl (k := 20) (st' := [.int y]) (cs' := 109) (ss' := 12668) rfl rfl rfl rfl rfl rfl rfl k1 ?_
  refine go_seg 5 (pc' := 1470) (ls' := [(3, .int 0), (2, .ref 90), (1, .ref 1), (0, .ref 0)]) (st' := [.int 1, .ref 0, .ref 90, .int y]) (w' := w1) (cs' := 109) (ss' := 12668) ?_ (fun _ _ => rfl)
  refine go_ald (z := .int a1) rfl hf (by rw [show a1 = f 1 from (hfi 1 (by decide)).symm]; rfl) ?_
  refine go_seg 4 (pc' := 1475) (ls' := [(3, .int 0), (2, .ref 90), (1, .ref 1), (0, .ref 0)]) (st' := [.int 2, .ref 0, .int a1, .ref 90, .int y]) (w' := w1) (cs' := 109) (ss' := 12668) ?_ (fun _ _ => rfl)
  refine go_ald (z := .int a2) rfl hf (by rw [show a2 = f 2 from (hfi 2 (by decide)).symm]; rfl) ?_
  refine go_seg 4 (pc' := 1480) (ls' := [(3, .int 0), (2, .ref 90), (1, .ref 1), (0, .ref 0)]) (st' := [.int 3, .ref 0, .int a2, .int a1, .ref 90, .int y]) (w' := w1) (cs' := 109) (ss' := 12668) ?_ (fun _ _ => rfl)
  refine go_ald (z := .int a3) rfl hf (by rw [show a3 = f 3 from (hfi 3 (by decide)).symm]; rfl) ?_
  refine go_cl (k := 20) (st' := [.int y, .int y]) (cs' := 109) (ss' := 12668) rfl rfl rfl rfl rfl rfl rfl l1 ?_
  refine go_cmp true rfl (br_self _) ?_
  exact law_tail (f := g) hg
theorem k34_0 : k34 (-2147483648, -1) (-2147483648, 2147483647) (-2147483648, 2147483647) (-1000001) = true := by decide +kernel
theorem k34_1 : k34 (4, 2147483647) (-2147483648, 2147483647) (-2147483648, 2147483647) (-1000001) = true := by decide +kernel
theorem k34_2 : k34 (0, 3) (-2147483648, -1) (-2147483648, 2147483647) (-1000001) = true := by decide +kernel
theorem k34_3 : k34 (0, 3) (1, 7) (-2147483648, 2147483647) (-1000001) = true := by decide +kernel
theorem k34_4 : k34 (0, 3) (9, 15) (-2147483648, 2147483647) (-1000001) = true := by decide +kernel
theorem k34_5 : k34 (0, 3) (17, 31) (-2147483648, 2147483647) (-1000001) = true := by decide +kernel
theorem k34_6 : k34 (0, 3) (33, 2147483647) (-2147483648, 2147483647) (-1000001) = true := by decide +kernel
theorem k34_7 : k34 (0, 3) (0, 0) (-2147483648, 2147483647) (1) = true := by decide +kernel
theorem k34_8 : k34 (0, 3) (8, 8) (-2147483648, -1) (-1000003) = true := by decide +kernel
theorem k34_9 : k34 (0, 3) (8, 8) (25, 2147483647) (-1000001) = true := by decide +kernel
theorem k34_10 : k34 (0, 3) (8, 8) (0, 24) (1) = true := by decide +kernel
theorem k34_11 : k34 (0, 3) (16, 16) (-2147483648, -1) (-1000003) = true := by decide +kernel
theorem k34_12 : k34 (0, 3) (16, 16) (25, 2147483647) (-1000001) = true := by decide +kernel
theorem k34_13 : k34 (0, 3) (16, 16) (0, 24) (1) = true := by decide +kernel
theorem k34_14 : k34 (0, 3) (32, 32) (-2147483648, -1) (-1000003) = true := by decide +kernel
theorem k34_15 : k34 (0, 3) (32, 32) (25, 2147483647) (-1000001) = true := by decide +kernel
theorem k34_16 : k34 (0, 3) (32, 32) (0, 24) (1) = true := by decide +kernel
theorem op_34 (a0 a1 a2 a3 a4 a5 : Int32) : ∃ w', pq_Go 20 pm_law 1446 [(3, .int 0), (2, .ref 90), (1, .ref 1), (0, .ref 0)] [] (fw (sz a0 a1 a2 a3 a4 a5)) 109 12668 (some (.int 1), w') := by
  have r1 := sx_i32 a1
  have r2 := sx_i32 a2
  have r3 := sx_i32 a3
  unfold sx_b31 at r1 r2 r3
  by_cases c0 : a1.toInt ≤ -1
  · exact lf34 a0 a1 a2 a3 a4 a5 k34_0 (by dsimp only; omega) (by dsimp only; omega) (by dsimp only; omega)
  by_cases c1 : 4 ≤ a1.toInt
  · exact lf34 a0 a1 a2 a3 a4 a5 k34_1 (by dsimp only; omega) (by dsimp only; omega) (by dsimp only; omega)
  by_cases c2 : 0 ≤ a1.toInt ∧ a1.toInt ≤ 3 ∧ a2.toInt ≤ -1
  · exact lf34 a0 a1 a2 a3 a4 a5 k34_2 (by dsimp only; omega) (by dsimp only; omega) (by dsimp only; omega)
  by_cases c3 : 0 ≤ a1.toInt ∧ a1.toInt ≤ 3 ∧ 1 ≤ a2.toInt ∧ a2.toInt ≤ 7
  · exact lf34 a0 a1 a2 a3 a4 a5 k34_3 (by dsimp only; omega) (by dsimp only; omega) (by dsimp only; omega)
  by_cases c4 : 0 ≤ a1.toInt ∧ a1.toInt ≤ 3 ∧ 9 ≤ a2.toInt ∧ a2.toInt ≤ 15
  · exact lf34 a0 a1 a2 a3 a4 a5 k34_4 (by dsimp only; omega) (by dsimp only; omega) (by dsimp only; omega)
  by_cases c5 : 0 ≤ a1.toInt ∧ a1.toInt ≤ 3 ∧ 17 ≤ a2.toInt ∧ a2.toInt ≤ 31
  · exact lf34 a0 a1 a2 a3 a4 a5 k34_5 (by dsimp only; omega) (by dsimp only; omega) (by dsimp only; omega)
  by_cases c6 : 0 ≤ a1.toInt ∧ a1.toInt ≤ 3 ∧ 33 ≤ a2.toInt
  · exact lf34 a0 a1 a2 a3 a4 a5 k34_6 (by dsimp only; omega) (by dsimp only; omega) (by dsimp only; omega)
  by_cases c7 : 0 ≤ a1.toInt ∧ a1.toInt ≤ 3 ∧ 0 ≤ a2.toInt ∧ a2.toInt ≤ 0
  · exact lf34 a0 a1 a2 a3 a4 a5 k34_7 (by dsimp only; omega) (by dsimp only; omega) (by dsimp only; omega)
  by_cases c8 : 0 ≤ a1.toInt ∧ a1.toInt ≤ 3 ∧ 8 ≤ a2.toInt ∧ a2.toInt ≤ 8 ∧ a3.toInt ≤ -1
  · exact lf34 a0 a1 a2 a3 a4 a5 k34_8 (by dsimp only; omega) (by dsimp only; omega) (by dsimp only; omega)
  by_cases c9 : 0 ≤ a1.toInt ∧ a1.toInt ≤ 3 ∧ 8 ≤ a2.toInt ∧ a2.toInt ≤ 8 ∧ 25 ≤ a3.toInt
  · exact lf34 a0 a1 a2 a3 a4 a5 k34_9 (by dsimp only; omega) (by dsimp only; omega) (by dsimp only; omega)
  by_cases c10 : 0 ≤ a1.toInt ∧ a1.toInt ≤ 3 ∧ 8 ≤ a2.toInt ∧ a2.toInt ≤ 8 ∧ 0 ≤ a3.toInt ∧ a3.toInt ≤ 24
  · exact lf34 a0 a1 a2 a3 a4 a5 k34_10 (by dsimp only; omega) (by dsimp only; omega) (by dsimp only; omega)
  by_cases c11 : 0 ≤ a1.toInt ∧ a1.toInt ≤ 3 ∧ 16 ≤ a2.toInt ∧ a2.toInt ≤ 16 ∧ a3.toInt ≤ -1
  · exact lf34 a0 a1 a2 a3 a4 a5 k34_11 (by dsimp only; omega) (by dsimp only; omega) (by dsimp only; omega)
  by_cases c12 : 0 ≤ a1.toInt ∧ a1.toInt ≤ 3 ∧ 16 ≤ a2.toInt ∧ a2.toInt ≤ 16 ∧ 25 ≤ a3.toInt
  · exact lf34 a0 a1 a2 a3 a4 a5 k34_12 (by dsimp only; omega) (by dsimp only; omega) (by dsimp only; omega)
  by_cases c13 : 0 ≤ a1.toInt ∧ a1.toInt ≤ 3 ∧ 16 ≤ a2.toInt ∧ a2.toInt ≤ 16 ∧ 0 ≤ a3.toInt ∧ a3.toInt ≤ 24
  · exact lf34 a0 a1 a2 a3 a4 a5 k34_13 (by dsimp only; omega) (by dsimp only; omega) (by dsimp only; omega)
  by_cases c14 : 0 ≤ a1.toInt ∧ a1.toInt ≤ 3 ∧ 32 ≤ a2.toInt ∧ a2.toInt ≤ 32 ∧ a3.toInt ≤ -1
  · exact lf34 a0 a1 a2 a3 a4 a5 k34_14 (by dsimp only; omega) (by dsimp only; omega) (by dsimp only; omega)
  by_cases c15 : 0 ≤ a1.toInt ∧ a1.toInt ≤ 3 ∧ 32 ≤ a2.toInt ∧ a2.toInt ≤ 32 ∧ 25 ≤ a3.toInt
  · exact lf34 a0 a1 a2 a3 a4 a5 k34_15 (by dsimp only; omega) (by dsimp only; omega) (by dsimp only; omega)
  by_cases c16 : 0 ≤ a1.toInt ∧ a1.toInt ≤ 3 ∧ 32 ≤ a2.toInt ∧ a2.toInt ≤ 32 ∧ 0 ≤ a3.toInt ∧ a3.toInt ≤ 24
  · exact lf34 a0 a1 a2 a3 a4 a5 k34_16 (by dsimp only; omega) (by dsimp only; omega) (by dsimp only; omega)
  exfalso
  omega
