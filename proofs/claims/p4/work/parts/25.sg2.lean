/-! stretches with stacks and bounds of places -/
abbrev sq_Al : Type := List (Nat × sx_V) × List sx_V × sx_O × List sx_F × sx_Gh
noncomputable def sq_alg (S : sx_S) (g : sx_Gh) : Bool := g.all fun q => match sx_of S.O q.1 (sx_nrm S.E q.2.1) with
  | some v => sx_gbv S.E S.C q.2.2.1 q.2.2.2.1 q.2.2.2.2 v
  | none => false
theorem sq_alg_ok {p : Nat → Int} {S : sx_S} {w : pq_W} {g : sx_Gh} (hE : sx_Sat p S.E) (hC : sx_Fok p S.C) (hO : sx_Ook p w S.O) (h : sq_alg S g = true) : sx_Gok p w g := fun q hq => by
  unfold sq_alg at h
  rw [List.all_eq_true] at h
  have h1 := h q hq
  split at h1
  · rename_i v hv
    obtain ⟨i, e1, x, e2, e3⟩ := hO _ (sx_of_mem hv)
    have e1 : (i : Int) = sx_ev p (sx_nrm S.E q.2.1) := e1
    exact ⟨i, by rw [e1, sx_nrm_ok hE], x, e2, sx_gbv_ok hE hC h1 e3⟩
  · cases h1
noncomputable def sq_al1 (S : sx_S) (a : sq_Al) : Bool := sx_als S a.1 && sx_steq a.2.1 S.fr.st && sx_alq S.O a.2.2.1 && sx_alf S a.2.2.2.1 && sq_alg S a.2.2.2.2
noncomputable def sq_alO (p : Nat → Int) (ls : pq_L) (st : List Value) (w : pq_W) (a : sq_Al) : Prop := sx_lm p a.1 ls ∧ sx_sm p a.2.1 st ∧ sx_Ook p w a.2.2.1 ∧ (∀ f ∈ a.2.2.2.1, sx_ev p f ≤ 0) ∧ sx_Gok p w a.2.2.2.2
noncomputable def sq_stop (j k : Nat) (hd : List (Nat × List sq_Al)) (S : sx_S) : Bool := Nat.beq S.fr.j j && Nat.beq S.k k && S.K.isEmpty && hd.any fun h => Nat.beq S.fr.pc h.1 && h.2.any (sq_al1 S)
abbrev sq_Ae : Type := ((sx_V ⊕ (Int × Int)) ⊕ Unit) × sx_O × List sx_F × sx_Gh
noncomputable def sq_ret (re : List sq_Ae) (S : sx_S) (rv : Option sx_V) : Bool := re.any fun a => sx_ae1 S rv a.1 && sx_alq S.O a.2.1 && sx_alf S a.2.2.1 && sq_alg S a.2.2.2
noncomputable def sq_aeO (p : Nat → Int) (r : Option Value) (w : pq_W) (a : sq_Ae) : Prop := sx_aeO1 p r a.1 ∧ sx_Ook p w a.2.1 ∧ (∀ f ∈ a.2.2.1, sx_ev p f ≤ 0) ∧ sx_Gok p w a.2.2.2
noncomputable def sq_s0 (k j : Nat) (M : pq_M) (pc : Nat) (iv : List (Int × Int)) (C : List sx_F) (ls : List (Nat × sx_V)) (st : List sx_V) (O : sx_O) (an : List (Nat × sx_an)) : sx_S := (iv.length, sx_nvs 0 iv, C, O, k, (j, M, pc, ls, st, an), [])
noncomputable def sq_s0b (n : Nat) (C : List sx_F) (ls : List (Nat × sx_V)) (st : List sx_V) (O : sx_O) : Bool := sx_s0b n C ls O && st.all (sx_vltb n)
theorem sq_s0_ok {T : List sx_ct} {A : sx_A} {w0 w : pq_W} {p : Nat → Int} {k j : Nat} {M : pq_M} {pc : Nat} {iv : List (Int × Int)} {C : List sx_F} {sl : List (Nat × sx_V)} {sa : List sx_V} {O : sx_O} {an : List (Nat × sx_an)} {ls : pq_L} {st : List Value} (hM : pq_tab[j]? = some M) (hi : sx_ivs p 0 iv) (hC : sx_Fok p C) (hl : sx_lm p sl ls) (hs : sx_sm p sa st) (ho : sx_Ook p w O) (ht : sx_Ty T w) (hf : sx_Fr A w0 w) (hb : sq_s0b iv.length C sl sa O = true) : sx_Mt T A w0 p (sq_s0 k j M pc iv C sl sa O an) [] ls st w := by
  unfold sq_s0b sx_s0b at hb
  rw [Bool.and_eq_true, Bool.and_eq_true, Bool.and_eq_true] at hb
  obtain ⟨⟨⟨b1, b2⟩, b3⟩, b4⟩ := hb
  rw [List.all_eq_true] at b1 b2 b4
  exact sx_mkMt (sat := sy_nvs_ok hi) (fok := hC)
    (elt := fun q hq => by
      have := sy_nvs_lt (iv := iv) (n := 0) q hq
      rw [Nat.zero_add] at this
      exact this)
    (clt := fun f hf => sx_fltb_ok (b1 f hf)) (olt := sx_oltb_ok b3) (flt := ⟨fun q hq => sx_vltb_ok (b2 q hq), fun v hv => sx_vltb_ok (b4 v hv)⟩) (klt := fun f hf => by cases hf) (ook := ho) (typ := ht) (frm := hf) (lsm := hl) (stm := hs) (ksm := trivial) (tbm := ⟨hM, fun f hf => by cases hf⟩)
section SQA
variable {P : sx_P} {w0 : pq_W} {J : pq_W → Prop} {Post : pq_R → Prop} {p0 : Nat → Int} {hd : List (Nat × List sq_Al)} {f N0 j k : Nat} {M : pq_M} {re : List sq_Ae}
theorem sq_hpo (hret : ∀ p r w, (∀ s, s < N0 → p s = p0 s) → sx_Ty P.T w → sx_Fr P.A w0 w → (∃ a ∈ re, sq_aeO p r w a) → Post (r, w)) : ∀ S' p ls st w rv r, sq_ret re S' rv = true → (∀ s, s < N0 → p s = p0 s) → N0 ≤ S'.n → sx_Mt P.T P.A w0 p S' [] ls st w → sx_rvm p rv r → Post (r, w) := by
  intro S' p ls st w rv r h1 h2 h3 m2 h4
  unfold sq_ret at h1
  rw [List.any_eq_true] at h1
  obtain ⟨a, ha, h1⟩ := h1
  simp only [Bool.and_eq_true] at h1
  exact hret p r w h2 m2.typ m2.frm ⟨a, ha, sx_ae1_ok m2.sat m2.fok h4 h1.1.1.1, sx_alq_ok m2.ook h1.1.1.2, sx_alf_ok m2.sat m2.fok h1.1.2, sq_alg_ok m2.sat m2.fok m2.ook h1.2⟩
theorem sq_hs (hM : pq_tab[j]? = some M) (hst : ∀ h ∈ hd, ∀ a ∈ h.2, ∀ p ls st w, (∀ s, s < N0 → p s = p0 s) → sx_Ty P.T w → sx_Fr P.A w0 w → sq_alO p ls st w a → ∃ res, pq_Go k M h.1 ls st w 0 0 res ∧ Post res) : ∀ S' p Kc ls st w, sq_stop j k hd S' = true → (∀ s, s < N0 → p s = p0 s) → N0 ≤ S'.n → sx_Mt P.T P.A w0 p S' Kc ls st w → sx_Ok Post S'.k Kc S'.fr.M S'.fr.pc ls st w := by
  intro S' p Kc ls st w h1 h2 h3 m2
  unfold sq_stop at h1
  simp only [Bool.and_eq_true] at h1
  obtain ⟨⟨⟨b2, b3⟩, b4⟩, b6⟩ := h1
  have eM : S'.fr.M = M := by
    have k1 := m2.tbm.1
    rw [Nat.eq_of_beq_eq_true b2, hM] at k1
    exact (Option.some.inj k1).symm
  have eK : Kc = [] := by
    have k1 := m2.ksm
    rw [List.isEmpty_iff.mp b4] at k1
    cases Kc with
    | nil => rfl
    | cons c K => exact k1.elim
  subst eK
  rw [List.any_eq_true] at b6
  obtain ⟨h, hh, b6⟩ := b6
  rw [Bool.and_eq_true] at b6
  obtain ⟨b1, b6⟩ := b6
  rw [List.any_eq_true] at b6
  obtain ⟨a, ha, b6⟩ := b6
  unfold sq_al1 at b6
  simp only [Bool.and_eq_true] at b6
  obtain ⟨⟨⟨⟨c1, c2⟩, c3⟩, c4⟩, c5⟩ := b6
  have key := hst h hh a ha p ls st w h2 m2.typ m2.frm ⟨sx_als_ok m2.lsm c1, by rw [sx_steq_ok c2]; exact m2.stm, sx_alq_ok m2.ook c3, sx_alf_ok m2.sat m2.fok c4, sq_alg_ok m2.sat m2.fok m2.ook c5⟩
  rw [eM, Nat.eq_of_beq_eq_true b1, Nat.eq_of_beq_eq_true b3]
  exact key
end SQA
theorem sq_sg {P : sx_P} {w0 w : pq_W} {J : pq_W → Prop} {Post : pq_R → Prop} {S : sx_S} {p0 : Nat → Int} {ls : pq_L} {st : List Value} {f : Nat} {hd : List (Nat × List sq_Al)} {re : List sq_Ae} (h : sx_go P (sq_ret re) (sx_cks P (sq_ret re) (sq_stop S.fr.j S.k hd) f) [] S = true) (m : sx_Mt P.T P.A w0 p0 S [] ls st w) (hct : ∀ q ∈ P.CT, sx_Kok P.T J q.1 q.2) (hJ : ∀ w, sx_Ty P.T w → sx_Fr P.A w0 w → J w)
    (hret : ∀ p r w, (∀ s, s < S.n → p s = p0 s) → sx_Ty P.T w → sx_Fr P.A w0 w → (∃ a ∈ re, sq_aeO p r w a) → Post (r, w))
    (hst : ∀ h ∈ hd, ∀ a ∈ h.2, ∀ p ls st w, (∀ s, s < S.n → p s = p0 s) → sx_Ty P.T w → sx_Fr P.A w0 w → sq_alO p ls st w a → ∃ res, pq_Go S.k S.fr.M h.1 ls st w 0 0 res ∧ Post res) : ∃ res, pq_Go S.k S.fr.M S.fr.pc ls st w 0 0 res ∧ Post res := by
  have hc := fun H S' => sx_cks_ok (P := P) (Post := Post) (N0 := S.n) (p0 := p0) (sq_hs m.tbm.1 hst) hct hJ (sq_hpo hret) f H S'
  exact sx_go_ok hct hJ (sq_hpo hret) hc h p0 ⟨fun _ _ => rfl, Nat.le_refl _, fun h hh => by cases hh⟩ [] ls st w m
/-- the stretch at a method's start -/
theorem sq_ent {P : sx_P} {w0 : pq_W} {J : pq_W → Prop} {Post : pq_R → Prop} {j k f : Nat} {M : pq_M} {as : List sx_ft} {xs : List Value} {hd : List (Nat × List sq_Al)} {re : List sq_Ae} {O : sx_O} (h : sx_go P (sq_ret re) (sx_cks P (sq_ret re) (sq_stop j k hd) f) [] (sx_beg P k j M as O []) = true) (hct : ∀ q ∈ P.CT, sx_Kok P.T J q.1 q.2) (hJ : ∀ w, sx_Ty P.T w → sx_Fr P.A w0 w → J w) (hM : pq_tab[j]? = some M) (hpre : (sx_pre P M as && sx_oltb as.length O) = true) (hx : sx_argm as xs) (hO : sx_Ook (sx_pv xs 0) w0 O) (ht : sx_Ty P.T w0)
    (hret : ∀ p r w, (∀ s, s < as.length → p s = sx_pv xs 0 s) → sx_Ty P.T w → sx_Fr P.A w0 w → (∃ a ∈ re, sq_aeO p r w a) → Post (r, w))
    (hst : ∀ h ∈ hd, ∀ a ∈ h.2, ∀ p ls st w, (∀ s, s < as.length → p s = sx_pv xs 0 s) → sx_Ty P.T w → sx_Fr P.A w0 w → sq_alO p ls st w a → ∃ res, pq_Go k M h.1 ls st w 0 0 res ∧ Post res) : ∃ r w1, pq_Ru (k + 1) j xs w0 (r, w1) ∧ Post (r, w1) := by
  rw [Bool.and_eq_true] at hpre
  obtain ⟨hpre, hkl⟩ := hpre
  have hkl := sx_oltb_ok hkl
  unfold sx_pre at hpre
  rw [Bool.and_eq_true, Bool.and_eq_true] at hpre
  obtain ⟨⟨q1, q2⟩, q3⟩ := hpre
  obtain ⟨m1, m2⟩ := sx_avs_ok (n := 0) (p := sx_pv xs 0) q1 hx (fun s _ _ => rfl)
  obtain ⟨l1, l2⟩ := sx_avs_lt (as := as) (n := 0)
  rw [Nat.zero_add] at l1 l2
  have hm : sx_Mt P.T P.A w0 (sx_pv xs 0) (sx_beg P k j M as O []) [] (lv_args 0 xs) [] w0 := sx_mkMt (sat := m2) (fok := fun f hf => by cases hf) (elt := l2) (clt := fun f hf => by cases hf) (olt := hkl) (flt := ⟨fun q hq => sx_args_lt l1 q hq, fun v hv => by cases hv⟩) (klt := fun f hf => by cases hf) (ook := hO) (typ := ht) (frm := sx_Fr_refl _ _) (lsm := sx_args_ok m1) (stm := trivial) (ksm := trivial) (tbm := ⟨hM, fun f hf => by cases hf⟩)
  obtain ⟨res, g, hp⟩ := sq_sg (Post := Post) h hm hct hJ (fun p r w h1 h2 h3 h4 => hret p r w h1 h2 h3 h4) (fun h hh a ha p ls st w h1 h2 h3 h4 => hst h hh a ha p ls st w h1 h2 h3 h4)
  refine ⟨res.1, res.2, ru_of hM ?_ g, hp⟩
  rw [Bool.and_eq_true]
  refine ⟨?_, sx_rcv_ok q3 m1 ht⟩
  rw [sx_ssum_ok m1]
  exact q2
/-- runs have one end -/
theorem sq_det {k k2 j : Nat} {as : List Value} {w : pq_W} {a b : pq_R} (h1 : pq_Ru k j as w a) (h2 : pq_Ru k2 j as w b) : a = b := by
  obtain ⟨N1, h1⟩ := h1
  obtain ⟨N2, h2⟩ := h2
  have e1 := h1 (k + k2) (N1 + N2) (by omega) (by omega)
  have e2 := h2 (k + k2) (N1 + N2) (by omega) (by omega)
  rw [e1] at e2
  exact Option.some.inj e2
/-! areNext, just as it is -/
noncomputable def sq_ab (x : Int32) : Int32 := if 0 ≤ x then x else 0 - x
noncomputable def sq_nx (a b : Int32) : Int32 := if sq_ab (a / 8 - b / 8) + sq_ab ((a - a / 8 * 8) - (b - b / 8 * 8)) = 1 then 1 else 0
theorem sq_ru_nx (a b : Int32) (w : pq_W) : pq_Ru 1 211 [.int a, .int b] w (some (.int (sq_nx a b)), w) := by
  refine ru_of (k := 0) (M := pm_211) rfl rfl ?_
  refine go_seg 8 (pc' := 12) (ls' := [(0, .int a), (1, .int b)]) (st' := [.int (sq_ab (a / 8 - b / 8))]) (w' := w) (cs' := 0) (ss' := 0) ?_ (fun _ _ => rfl)
  refine go_seg 8 (pc' := 22) (ls' := [(2, .int (sq_ab (a / 8 - b / 8))), (0, .int a), (1, .int b)]) (st' := [.int ((a - a / 8 * 8) - (b - b / 8 * 8))]) (w' := w) (cs' := 0) (ss' := 0) ?_ (fun _ _ => rfl)
  refine go_seg 6 (pc' := 30) (ls' := [(3, .int (sq_ab ((a - a / 8 * 8) - (b - b / 8 * 8)))), (2, .int (sq_ab (a / 8 - b / 8))), (0, .int a), (1, .int b)]) (st' := [.int 1, .int (sq_ab (a / 8 - b / 8) + sq_ab ((a - a / 8 * 8) - (b - b / 8 * 8)))]) (w' := w) (cs' := 0) (ss' := 0) ?_ (fun _ _ => rfl)
  unfold sq_nx
  by_cases h : sq_ab (a / 8 - b / 8) + sq_ab ((a - a / 8 * 8) - (b - b / 8 * 8)) = 1
  · rw [if_pos h]
    refine go_cmp false rfl (decide_eq_false (fun z => z h)) ?_
    exact go_end 3 (fun _ _ => rfl)
  · rw [if_neg h]
    refine go_cmp true rfl (decide_eq_true h) ?_
    exact go_end 2 (fun _ _ => rfl)
