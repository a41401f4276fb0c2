/-! what every call keeps; airline, earn, pay -/
noncomputable def fr_o (r : Nat) (i : Nat) : sx_A → Prop
  | [] => True
  | (q, lo, hi) :: A => (q ≠ r ∨ (i : Int) < lo ∨ hi < (i : Int)) ∧ fr_o r i A
theorem fr_o_ok {r i : Nat} : ∀ {A : sx_A}, fr_o r i A → ¬ sx_InA A r i
  | [], _ => fun ⟨q, hq, _⟩ => by cases hq
  | (a, lo, hi) :: A, h => fun ⟨q, hq, e1, e2, e3⟩ => by
    cases List.mem_cons.mp hq with
    | inl e =>
      subst e
      have e2 : lo ≤ (i : Int) := e2
      have e3 : (i : Int) ≤ hi := e3
      rcases h.1 with h | h | h
      · exact h e1
      · omega
      · omega
    | inr e => exact fr_o_ok h.2 ⟨q, e, e1, e2, e3⟩
theorem fr_no {A : sx_A} {w w1 : pq_W} {r i : Nat} (f : sx_Fr A w w1) (h : fr_o r i A) : sy_r w1 r i = sy_r w r i := sy_r_fr f (fr_o_ok h)
noncomputable def fr_i (B : sx_A) : sx_A → Prop
  | [] => True
  | (q, lo, hi) :: A => (∃ lo' hi' : Int, (q, lo', hi') ∈ B ∧ lo' ≤ lo ∧ hi ≤ hi') ∧ fr_i B A
theorem fr_wk {B : sx_A} {w w1 : pq_W} : ∀ {A : sx_A}, fr_i B A → sx_Fr A w w1 → sx_Fr B w w1 := by
  intro A h f r i hn
  refine f r i (fun hin => hn ?_)
  clear f hn
  induction A with
  | nil =>
    obtain ⟨q, hq, _⟩ := hin
    cases hq
  | cons a A ih =>
    obtain ⟨q, hq, e1, e2, e3⟩ := hin
    obtain ⟨a, lo, hi⟩ := a
    cases List.mem_cons.mp hq with
    | inl e =>
      subst e
      obtain ⟨lo', hi', h1, h2, h3⟩ := h.1
      have e2 : lo ≤ (i : Int) := e2
      have e3 : (i : Int) ≤ hi := e3
      exact ⟨(a, lo', hi'), h1, e1, by show lo' ≤ (i : Int); omega, by show (i : Int) ≤ hi'; omega⟩
    | inr e => exact ih h.2 ⟨q, e, e1, e2, e3⟩
theorem mo_yT {w : pq_W} {r : Nat} (ht : sx_Ty sx_T0 w) (hr : r = 95 ∨ r = 96) : mo_y (sy_r w r) := by
  have key : ∀ g : sx_G, g ∈ ([(2, 1, 1, 0, 0, 0, 8), (3, 1, 1, 0, 0, 0, 12), (5, 1, 1, 0, 0, 0, 30), (6, 1, 1, 0, 0, 0, 40), (302, 34, 30, 0, 0, 0, 11), (266, 3, 12, 1, 1, 0, 7)] : List sx_G) → ∀ k j : Nat, k < g.2.2.1 → g.2.2.2.1 ≤ j → j ≤ g.2.2.2.2.1 → g.1 + g.2.1 * k + j < 2858 → g.2.2.2.2.2.1 ≤ sy_r w r (g.1 + g.2.1 * k + j) ∧ sy_r w r (g.1 + g.2.1 * k + j) ≤ g.2.2.2.2.2.2 := by
    intro g hg k j h1 h2 h3 h4
    simp only [List.mem_cons, List.not_mem_nil, or_false] at hg
    rcases hr with rfl | rfl
    · refine sy_rg (r := 95) ht rfl (g := g) ?_ h1 h2 h3 h4
      rcases hg with rfl | rfl | rfl | rfl | rfl | rfl <;> decide
    · refine sy_rg (r := 96) ht rfl (g := g) ?_ h1 h2 h3 h4
      rcases hg with rfl | rfl | rfl | rfl | rfl | rfl <;> decide
  refine ⟨?_, ?_, ?_, ?_, fun g hg => ?_, fun p hp => ?_⟩
  · exact key (2, 1, 1, 0, 0, 0, 8) (by decide) 0 0 (by decide) (by decide) (by decide) (by decide)
  · exact key (3, 1, 1, 0, 0, 0, 12) (by decide) 0 0 (by decide) (by decide) (by decide) (by decide)
  · exact key (5, 1, 1, 0, 0, 0, 30) (by decide) 0 0 (by decide) (by decide) (by decide) (by decide)
  · exact key (6, 1, 1, 0, 0, 0, 40) (by decide) 0 0 (by decide) (by decide) (by decide) (by decide)
  · exact key (302, 34, 30, 0, 0, 0, 11) (by decide) g 0 hg (Nat.le_refl _) (Nat.le_refl _) (by show 302 + 34 * g + 0 < 2858; omega)
  · have := key (266, 3, 12, 1, 1, 0, 7) (by decide) p 1 hp (Nat.le_refl _) (Nat.le_refl _) (by show 266 + 3 * p + 1 < 2858; omega)
    have this : 0 ≤ sy_r w r (266 + 3 * p + 1) ∧ sy_r w r (266 + 3 * p + 1) ≤ 7 := this
    rw [show 267 + 3 * p = 266 + 3 * p + 1 by omega]
    exact this
noncomputable def JJ (w : pq_W) : Prop := sy_J0 w ∧ Mo (sy_r w 95) ∧ Mo (sy_r w 96)
/-- where a call may write that is none of fuel, image, restore: the kept ones, fuel and the number of images are as they were -/
noncomputable def sx_MZ : sx_A := [(94, 3, 1000), (95, 3, 9), (95, 138, 2857), (97, 0, 100000), (100, 0, 100000), (101, 0, 100000), (102, 0, 100000), (103, 0, 100000), (104, 0, 100000), (105, 0, 100000), (106, 0, 100000), (107, 0, 100000), (108, 0, 100000), (109, 0, 100000), (110, 0, 100000), (111, 0, 100000), (112, 0, 100000), (113, 0, 100000)]
noncomputable def kz_P (w : pq_W) (res : pq_R) : Prop := sx_Ty sx_T0 res.2 ∧ JJ res.2 ∧ sx_Fr sx_MZ w res.2 ∧ ∃ x : Int32, res.1 = some (.int x)
theorem kz_96 {w w1 : pq_W} (f : sx_Fr sx_MZ w w1) (i : Nat) : sy_r w1 96 i = sy_r w 96 i := fr_no f (by
  unfold sx_MZ
  repeat' apply And.intro
  all_goals first | exact Or.inl (by decide) | trivial)
/-- what is owed, where tells and laws are as they were -/
theorem kz_mk {w w1 : pq_W} {x : Option Value} (hJ : JJ w) (ht : sx_Ty sx_T0 w1) {A : sx_A} (f : sx_Fr A w w1) (hA : fr_i [(94, 3, 1000), (95, 3, 9), (95, 138, 1321), (95, 2798, 2857), (97, 0, 100000), (100, 0, 100000), (101, 0, 100000), (102, 0, 100000), (103, 0, 100000), (104, 0, 100000), (105, 0, 100000), (106, 0, 100000), (107, 0, 100000), (108, 0, 100000), (109, 0, 100000), (110, 0, 100000), (111, 0, 100000), (112, 0, 100000), (113, 0, 100000)] A) (hm : Mo (sy_r w1 95)) (hx : ∃ y : Int32, x = some (.int y)) : kz_P w (x, w1) := by
  have f1 := fr_wk hA f
  have fz : sx_Fr sx_MZ w w1 := sx_Fr_sub (by decide +kernel) f1
  refine ⟨ht, ⟨sy_J0I w w1 hJ.1 ht (sx_Fr_sub (by decide +kernel) f1), hm, ?_⟩, fz, hx⟩
  show Mo (sy_r w1 96)
  have e : sy_r w1 96 = sy_r w 96 := funext (fun i => kz_96 fz i)
  rw [e]
  exact hJ.2.2
/-- the same, where a little more may be written -/
noncomputable def sx_MGd : sx_A := (95, 0, 0) :: sx_MZ
noncomputable def kz_PGd (w : pq_W) (res : pq_R) : Prop := sx_Ty sx_T0 res.2 ∧ JJ res.2 ∧ sx_Fr sx_MGd w res.2 ∧ ∃ x : Int32, res.1 = some (.int x)
theorem kz_96Gd {w w1 : pq_W} (f : sx_Fr sx_MGd w w1) (i : Nat) : sy_r w1 96 i = sy_r w 96 i := fr_no f (by
  unfold sx_MGd sx_MZ
  repeat' apply And.intro
  all_goals first | exact Or.inl (by decide) | trivial)
theorem kz_mkGd {w w1 : pq_W} {x : Option Value} (hJ : JJ w) (ht : sx_Ty sx_T0 w1) {A : sx_A} (f : sx_Fr A w w1) (hA : fr_i [(94, 3, 1000), (95, 0, 0), (95, 3, 9), (95, 138, 1321), (95, 2798, 2857), (97, 0, 100000), (100, 0, 100000), (101, 0, 100000), (102, 0, 100000), (103, 0, 100000), (104, 0, 100000), (105, 0, 100000), (106, 0, 100000), (107, 0, 100000), (108, 0, 100000), (109, 0, 100000), (110, 0, 100000), (111, 0, 100000), (112, 0, 100000), (113, 0, 100000)] A) (hm : Mo (sy_r w1 95)) (hx : ∃ y : Int32, x = some (.int y)) : kz_PGd w (x, w1) := by
  have f1 := fr_wk hA f
  have fz : sx_Fr sx_MGd w w1 := sx_Fr_sub (by decide +kernel) f1
  refine ⟨ht, ⟨sy_J0I w w1 hJ.1 ht (sx_Fr_sub (by decide +kernel) f1), hm, ?_⟩, fz, hx⟩
  show Mo (sy_r w1 96)
  have e : sy_r w1 96 = sy_r w 96 := funext (fun i => kz_96Gd fz i)
  rw [e]
  exact hJ.2.2
/-- the same, where a little more may be written -/
noncomputable def sx_MGa : sx_A := (95, 2, 2) :: sx_MZ
noncomputable def kz_PGa (w : pq_W) (res : pq_R) : Prop := sx_Ty sx_T0 res.2 ∧ JJ res.2 ∧ sx_Fr sx_MGa w res.2 ∧ ∃ x : Int32, res.1 = some (.int x)
theorem kz_96Ga {w w1 : pq_W} (f : sx_Fr sx_MGa w w1) (i : Nat) : sy_r w1 96 i = sy_r w 96 i := fr_no f (by
  unfold sx_MGa sx_MZ
  repeat' apply And.intro
  all_goals first | exact Or.inl (by decide) | trivial)
theorem kz_mkGa {w w1 : pq_W} {x : Option Value} (hJ : JJ w) (ht : sx_Ty sx_T0 w1) {A : sx_A} (f : sx_Fr A w w1) (hA : fr_i [(94, 3, 1000), (95, 2, 2), (95, 3, 9), (95, 138, 1321), (95, 2798, 2857), (97, 0, 100000), (100, 0, 100000), (101, 0, 100000), (102, 0, 100000), (103, 0, 100000), (104, 0, 100000), (105, 0, 100000), (106, 0, 100000), (107, 0, 100000), (108, 0, 100000), (109, 0, 100000), (110, 0, 100000), (111, 0, 100000), (112, 0, 100000), (113, 0, 100000)] A) (hm : Mo (sy_r w1 95)) (hx : ∃ y : Int32, x = some (.int y)) : kz_PGa w (x, w1) := by
  have f1 := fr_wk hA f
  have fz : sx_Fr sx_MGa w w1 := sx_Fr_sub (by decide +kernel) f1
  refine ⟨ht, ⟨sy_J0I w w1 hJ.1 ht (sx_Fr_sub (by decide +kernel) f1), hm, ?_⟩, fz, hx⟩
  show Mo (sy_r w1 96)
  have e : sy_r w1 96 = sy_r w 96 := funext (fun i => kz_96Ga fz i)
  rw [e]
  exact hJ.2.2
/-- the same, where less may be written -/
noncomputable def sx_MGf : sx_A := [(94, 3, 1000), (95, 4, 9), (95, 302, 2857), (97, 0, 100000), (101, 0, 100000), (102, 0, 100000), (103, 0, 100000), (104, 0, 100000), (105, 0, 100000), (106, 0, 100000), (107, 0, 100000), (108, 0, 100000), (109, 0, 100000), (110, 0, 100000), (111, 0, 100000), (112, 0, 100000), (113, 0, 100000)]
noncomputable def kz_PGf (w : pq_W) (res : pq_R) : Prop := sx_Ty sx_T0 res.2 ∧ JJ res.2 ∧ sx_Fr sx_MGf w res.2 ∧ ∃ x : Int32, res.1 = some (.int x)
theorem kz_96Gf {w w1 : pq_W} (f : sx_Fr sx_MGf w w1) (i : Nat) : sy_r w1 96 i = sy_r w 96 i := fr_no f (by
  unfold sx_MGf
  repeat' apply And.intro
  all_goals first | exact Or.inl (by decide) | trivial)
theorem kz_mkGf {w w1 : pq_W} {x : Option Value} (hJ : JJ w) (ht : sx_Ty sx_T0 w1) {A : sx_A} (f : sx_Fr A w w1) (hA : fr_i [(94, 3, 1000), (95, 4, 9), (95, 302, 1321), (95, 2798, 2857), (97, 0, 100000), (101, 0, 100000), (102, 0, 100000), (103, 0, 100000), (104, 0, 100000), (105, 0, 100000), (106, 0, 100000), (107, 0, 100000), (108, 0, 100000), (109, 0, 100000), (110, 0, 100000), (111, 0, 100000), (112, 0, 100000), (113, 0, 100000)] A) (hm : Mo (sy_r w1 95)) (hx : ∃ y : Int32, x = some (.int y)) : kz_PGf w (x, w1) := by
  have f1 := fr_wk hA f
  have fz : sx_Fr sx_MGf w w1 := sx_Fr_sub (by decide +kernel) f1
  refine ⟨ht, ⟨sy_J0I w w1 hJ.1 ht (sx_Fr_sub (by decide +kernel) f1), hm, ?_⟩, fz, hx⟩
  show Mo (sy_r w1 96)
  have e : sy_r w1 96 = sy_r w 96 := funext (fun i => kz_96Gf fz i)
  rw [e]
  exact hJ.2.2
/-- the same, where end may write -/
noncomputable def sx_MGe : sx_A := [(97, 0, 100000), (102, 0, 100000), (103, 0, 100000), (95, 143, 143), (95, 149, 149), (95, 155, 155), (95, 161, 161), (95, 167, 167), (95, 173, 173), (95, 179, 179), (95, 185, 185), (95, 186, 265)]
noncomputable def kz_PGe (w : pq_W) (res : pq_R) : Prop := sx_Ty sx_T0 res.2 ∧ JJ res.2 ∧ sx_Fr sx_MGe w res.2 ∧ ∃ x : Int32, res.1 = some (.int x)
theorem kz_96Ge {w w1 : pq_W} (f : sx_Fr sx_MGe w w1) (i : Nat) : sy_r w1 96 i = sy_r w 96 i := fr_no f (by
  unfold sx_MGe
  repeat' apply And.intro
  all_goals first | exact Or.inl (by decide) | trivial)
theorem kz_mkGe {w w1 : pq_W} {x : Option Value} (hJ : JJ w) (ht : sx_Ty sx_T0 w1) {A : sx_A} (f : sx_Fr A w w1) (hA : fr_i [(95, 143, 143), (95, 149, 149), (95, 155, 155), (95, 161, 161), (95, 167, 167), (95, 173, 173), (95, 179, 179), (95, 185, 185), (95, 186, 265), (97, 0, 100000), (102, 0, 100000), (103, 0, 100000)] A) (hm : Mo (sy_r w1 95)) (hx : ∃ y : Int32, x = some (.int y)) : kz_PGe w (x, w1) := by
  have f1 := fr_wk hA f
  have fz : sx_Fr sx_MGe w w1 := sx_Fr_sub (by decide +kernel) f1
  refine ⟨ht, ⟨sy_J0I w w1 hJ.1 ht (sx_Fr_sub (by decide +kernel) f1), hm, ?_⟩, fz, hx⟩
  show Mo (sy_r w1 96)
  have e : sy_r w1 96 = sy_r w 96 := funext (fun i => kz_96Ge fz i)
  rw [e]
  exact hJ.2.2
/-- nothing that counts is written -/
theorem kz_fr {w w1 : pq_W} (hM : Mo (sy_r w 95)) (ht : sx_Ty sx_T0 w1) {A : sx_A} (f : sx_Fr A w w1) (hA : ∀ i : Nat, (i = 0 ∨ i = 3 ∨ i = 5 ∨ i = 6 ∨ (186 ≤ i ∧ i < 1922)) → fr_o 95 i A) : Mo (sy_r w1 95) :=
  Mo_fr hM (fr_no f (hA 0 (Or.inl rfl))) (mo_yT ht (Or.inl rfl)).1 (fr_no f (hA 3 (Or.inr (Or.inl rfl)))) (fr_no f (hA 5 (Or.inr (Or.inr (Or.inl rfl))))) (fr_no f (hA 6 (Or.inr (Or.inr (Or.inr (Or.inl rfl)))))) (fun i h1 h2 => fr_no f (hA i (Or.inr (Or.inr (Or.inr (Or.inr ⟨h1, h2⟩))))))
/-- an answer BEYOND .. : only found has changed -/
theorem kz_er {w w1 : pq_W} {x : Option Value} (hJ : JJ w) (ht : sx_Ty sx_T0 w1) (f : sx_Fr [(97, 0, 5)] w w1) (hx : ∃ y : Int32, x = some (.int y)) : kz_P w (x, w1) :=
  kz_mk hJ ht f ⟨⟨0, 100000, by decide, by decide, by decide⟩, trivial⟩ (kz_fr hJ.2.1 ht f (fun i _ => ⟨Or.inl (by decide), trivial⟩)) hx
theorem kz_erGd {w w1 : pq_W} {x : Option Value} (hJ : JJ w) (ht : sx_Ty sx_T0 w1) (f : sx_Fr [(97, 0, 5)] w w1) (hx : ∃ y : Int32, x = some (.int y)) : kz_PGd w (x, w1) :=
  kz_mkGd hJ ht f ⟨⟨0, 100000, by decide, by decide, by decide⟩, trivial⟩ (kz_fr hJ.2.1 ht f (fun i _ => ⟨Or.inl (by decide), trivial⟩)) hx
theorem kz_erGa {w w1 : pq_W} {x : Option Value} (hJ : JJ w) (ht : sx_Ty sx_T0 w1) (f : sx_Fr [(97, 0, 5)] w w1) (hx : ∃ y : Int32, x = some (.int y)) : kz_PGa w (x, w1) :=
  kz_mkGa hJ ht f ⟨⟨0, 100000, by decide, by decide, by decide⟩, trivial⟩ (kz_fr hJ.2.1 ht f (fun i _ => ⟨Or.inl (by decide), trivial⟩)) hx
theorem kz_erGf {w w1 : pq_W} {x : Option Value} (hJ : JJ w) (ht : sx_Ty sx_T0 w1) (f : sx_Fr [(97, 0, 5)] w w1) (hx : ∃ y : Int32, x = some (.int y)) : kz_PGf w (x, w1) :=
  kz_mkGf hJ ht f ⟨⟨0, 100000, by decide, by decide, by decide⟩, trivial⟩ (kz_fr hJ.2.1 ht f (fun i _ => ⟨Or.inl (by decide), trivial⟩)) hx
theorem kz_erGe {w w1 : pq_W} {x : Option Value} (hJ : JJ w) (ht : sx_Ty sx_T0 w1) (f : sx_Fr [(97, 0, 5)] w w1) (hx : ∃ y : Int32, x = some (.int y)) : kz_PGe w (x, w1) :=
  kz_mkGe hJ ht f ⟨⟨0, 100000, by decide, by decide, by decide⟩, trivial⟩ (kz_fr hJ.2.1 ht f (fun i _ => ⟨Or.inl (by decide), trivial⟩)) hx
theorem mc_oe {p : Nat → Int} {w : pq_W} {i : Int} {n : Nat} {v : sx_F} {O : sx_O} (h : ng_eqs p w (mc_o i (.inl (.inl v)) :: O)) (e : i = n) : sy_r w 95 n = sx_ev p v ∧ ng_eqs p w O := by
  have h1 := h.1
  rw [ng_ek, e, Int.toNat_natCast] at h1
  exact ⟨h1, h.2⟩
theorem mc_eo {p : Nat → Int} {w : pq_W} {i : Int} {n : Nat} {v : sx_F} {O : sx_O} (h : sy_r w 95 n = sx_ev p v) (e : i = n) (hO : ng_eqs p w O) : ng_eqs p w (mc_o i (.inl (.inl v)) :: O) := by
  refine ⟨?_, hO⟩
  rw [ng_ek, e, Int.toNat_natCast]
  exact h
theorem mc_ans {p : Nat → Int} {r : Option Value} (h : ng_a1 p r mc_any) : ∃ y : Int32, r = some (.int y) := by
  obtain ⟨x, h1, _⟩ := h
  exact ⟨x, h1⟩
/-- an airline that is there -/
theorem mo_air_bd {N : Nat → Int} (h : Mo N) {a l : Nat} (ha : a < 8) (hl : l < 8) : 0 ≤ N (188 + 10 * a + l) ∧ N (188 + 10 * a + l) ≤ 142990700 := by
  have h1 := (h.2.2.2 a ha).1 l hl
  have h2 := mo_F_bd (a := a) h.2.2.1 hl
  have h3 := mo_B_30 (y := (N 0 / 100).toNat) (by have := h.1; omega)
  have h1 : 0 ≤ N (188 + 10 * a + l) ∧ N (188 + 10 * a + l) ≤ mo_F N a l + mo_B (N 0 / 100).toNat := h1
  omega
theorem kz_earn {xa xn : Int32} {w : pq_W} (ht : sx_Ty sx_T0 w) (hJ : JJ w) : ∃ res, pq_Ru 300 189 [.ref 94, .int xa, .int xn] w res ∧ kz_P w res := by
  have hy := mo_yT ht (Or.inl rfl)
  have hy2 : 0 ≤ sy_r w 95 2 ∧ sy_r w 95 2 ≤ 8 := hy.1
  have main : ∃ res, pq_Go 299 pm_189 0 (lv_args 0 [.ref 94, .int xa, .int xn]) [] w 0 0 res ∧ kz_P w res := by
    refine ng_go (J := sx_tt) (Post := kz_P w) (fx_p [xa.toInt, xn.toInt, sy_r w 95 2]) mc_e1 rfl ⟨xa.minValue_le_toInt, xa.toInt_le, xn.minValue_le_toInt, xn.toInt_le, hy.1.1, hy.1.2, trivial⟩ trivial ⟨rfl, ng_iy ⟨xa, rfl, rfl⟩ rfl, ng_iy ⟨xn, rfl, rfl⟩ rfl, trivial⟩ trivial (mc_eo (n := 2) (by rw [sx_y_ev]; rfl) rfl trivial) ht sx_ctn (fun _ _ _ => trivial) ⟨fun x w2 t2 f2 a => kz_er hJ t2 f2 (mc_ans a.1), trivial⟩ ⟨fun ls2 st2 w2 t2 f2 q => ?_, trivial⟩
    obtain ⟨a1, a2, _, a4, _⟩ := q
    cases ng_st0 a2
    obtain ⟨c0, c1, c2, _⟩ := a1
    obtain ⟨d1, d2, d3, d4, _⟩ := a4
    have d1 : 0 + (-1 * xa.toInt + 0) ≤ 0 := d1
    have d2 : 1 + (1 * xa.toInt + (-1 * sy_r w 95 2 + 0)) ≤ 0 := d2
    have d3 : 1 + (-1 * xn.toInt + 0) ≤ 0 := d3
    have d4 : -99999 + (1 * xn.toInt + 0) ≤ 0 := d4
    obtain ⟨a, ea⟩ : ∃ a : Nat, (a : Int) = xa.toInt := ⟨xa.toInt.toNat, by omega⟩
    have ha8 : a < 8 := by omega
    have f2 : sx_Fr [(97, 0, 5)] w w2 := f2
    have s2 : ∀ i, sy_r w2 95 i = sy_r w 95 i := fun i => fr_no f2 ⟨Or.inl (by decide), trivial⟩
    have hM := hJ.2.1
    have k := hM.2.2.2 a ha8
    have hc : 0 ≤ sy_r w 95 (186 + 10 * a) ∧ sy_r w 95 (186 + 10 * a) ≤ mo_C := ⟨k.2.1, k.2.2.1⟩
    unfold mo_C at hc
    have he : 0 ≤ sy_r w 95 (187 + 10 * a) ∧ sy_r w 95 (187 + 10 * a) ≤ 1 := by
      have := sy_rg (r := 95) ht rfl (g := (186, 10, 8, 1, 1, 0, 1)) (by decide) (k := a) (j := 1) ha8 (Nat.le_refl _) (Nat.le_refl _) (by show 186 + 10 * a + 1 < 2858; omega)
      have this : 0 ≤ sy_r w 95 (186 + 10 * a + 1) ∧ sy_r w 95 (186 + 10 * a + 1) ≤ 1 := this
      rw [show 187 + 10 * a = 186 + 10 * a + 1 by omega]
      exact this
    have c0 : pq_lk ls2 0 = some (.ref 94) := c0
    have g1 : ng_i ls2 1 (a : Int) := ng_yi c1 (show xa.toInt = (a : Int) by omega)
    have g2 : ng_i ls2 2 xn.toInt := ng_yi c2 rfl
    have ck := List.all_eq_true.mp mc_e2 a (List.mem_range.mpr ha8)
    refine ng_go (J := sx_tt) (Post := kz_P w) (fx_p [xn.toInt, sy_r w 95 (186 + 10 * a), sy_r w 95 (187 + 10 * a)]) ck rfl ⟨(show 1 ≤ xn.toInt by omega), (show xn.toInt ≤ 99999 by omega), hc.1, hc.2, he.1, he.2, trivial⟩ trivial ⟨c0, ng_ik g1 rfl, ng_iy g2 rfl, trivial⟩ trivial (mc_eo (n := 186 + 10 * a) (by rw [sx_y_ev, s2]; rfl) (by omega) (mc_eo (n := 187 + 10 * a) (by rw [sx_y_ev, s2]; rfl) (by omega) trivial)) t2 sx_ctn (fun _ _ _ => trivial) ⟨fun x w3 t3 f3 q => ?_, fun x w3 t3 f3 q => ?_, trivial⟩ trivial
    all_goals
      obtain ⟨q1, q2, q3, _⟩ := q
      have f3 : sx_Fr [(97, 0, 5), (95, 186 + 10 * (a : Int), 186 + 10 * (a : Int))] w2 w3 := f3
      have f4 : sx_Fr [(97, 0, 5), (95, 186 + 10 * (a : Int), 186 + 10 * (a : Int))] w w3 := sx_Fr_trans (fr_wk (A := [(97, 0, 5)]) ⟨⟨0, 5, List.mem_cons_self, by omega, by omega⟩, trivial⟩ f2) f3
      have so : ∀ i : Nat, i ≠ 186 + 10 * a → sy_r w3 95 i = sy_r w 95 i := fun i hi => fr_no f4 ⟨Or.inl (by decide), Or.inr (by omega), trivial⟩
      refine kz_mk hJ t3 f4 ⟨⟨0, 100000, by decide, by omega, by omega⟩, (by first | exact ⟨138, 1321, by decide, by omega, by omega⟩ | exact ⟨3, 9, by decide, by omega, by omega⟩ | exact ⟨2, 2, by decide, by omega, by omega⟩ | exact ⟨302, 1321, by decide, by omega, by omega⟩), trivial⟩ ?_ (mc_ans q1)
      have hm0 : mo_N (sy_r w3 95) (fun _ _ => mo_B (sy_r w 95 0 / 100).toNat) := ?_
      · refine ⟨by rw [so 0 (by omega)]; exact hM.1, ?_⟩
        rw [so 0 (by omega)]
        exact hm0
    · obtain ⟨q2, _⟩ := mc_oe (n := 186 + 10 * a) q2 (by omega)
      rw [sx_y_ev] at q2
      have q2 : sy_r w3 95 (186 + 10 * a) = sy_r w 95 (186 + 10 * a) := q2
      refine mo_N_fr hM.2 (by rw [so 2 (by omega)]; exact hy.1) (so 3 (by omega)) (so 5 (by omega)) (so 6 (by omega)) (fun i _ _ => ?_)
      by_cases e : i = 186 + 10 * a
      · rw [e]; exact q2
      · exact so i e
    · obtain ⟨q2, _⟩ := mc_oe (n := 186 + 10 * a) q2 (by omega)
      have q2 : sy_r w3 95 (186 + 10 * a) = 0 + (1 * xn.toInt + (1 * sy_r w 95 (186 + 10 * a) + 0)) := q2
      have q3 : -999999 + (1 * xn.toInt + (1 * sy_r w 95 (186 + 10 * a) + 0)) ≤ 0 := q3.1
      exact mo_earn (a0 := a) hM.2 ha8 (by rw [so 2 (by omega)]; exact hy.1) (so 3 (by omega)) (so 5 (by omega)) (so 6 (by omega)) (fun i h1 h2 => so i (by omega)) (fun b hb hne j hj => so _ (by omega)) (by omega) (fun l hl => so _ (by omega))
  obtain ⟨res, g1, g2⟩ := main
  refine ⟨res, ru_of (k := 299) (M := pm_189) rfl ?_ g1, g2⟩
  rw [Bool.and_eq_true]
  exact ⟨rfl, sq_rcv ht rfl rfl rfl⟩
