/-! the reference's cheapest ways: what keeps steps small and makes the search end -/
noncomputable def fw_le (a b x y : Int) : Prop := a < x ∨ (a = x ∧ b ≤ y)
noncomputable def fw_pc (E : Nat → Int) (F : Int) : List Nat → Int
  | [] => 0
  | [_] => 0
  | c :: d :: t => F + E c + E d + fw_pc E F (d :: t)
noncomputable def fw_Gd (E : Nat → Int) (F : Int) (nx : Nat → Nat → Prop) (sh : Nat → Int) (C S : Nat → Int) : List Nat → Prop
  | [] => False
  | [c] => c < 64 ∧ fw_le (C c) (S c) 0 0
  | c :: d :: t => c < 64 ∧ fw_le (C c) (S c) (fw_pc E F (c :: d :: t)) ((d :: t).length : Nat) ∧ nx c d ∧ sh c = 0 ∧ ¬ c ∈ d :: t ∧ fw_Gd E F nx sh C S (d :: t)
noncomputable def fw_far : Int := 100000000
noncomputable def fw_Iv (E : Nat → Int) (F : Int) (nx : Nat → Nat → Prop) (sh : Nat → Int) (C S : Nat → Int) : Prop := ∀ c, c < 64 → (C c = fw_far ∧ S c = 0) ∨ (0 ≤ C c ∧ C c < fw_far ∧ ∃ t, fw_Gd E F nx sh C S (c :: t) ∧ C c = fw_pc E F (c :: t) ∧ S c = (t.length : Nat))
section FW
variable {E : Nat → Int} {F : Int} {nx : Nat → Nat → Prop} {sh C S C' S' : Nat → Int}
theorem fw_le_tr {a b c d e f : Int} (h1 : fw_le a b c d) (h2 : fw_le c d e f) : fw_le a b e f := by
  unfold fw_le at *
  omega
theorem fw_mono (h : ∀ c, c < 64 → fw_le (C' c) (S' c) (C c) (S c)) : ∀ {P : List Nat}, fw_Gd E F nx sh C S P → fw_Gd E F nx sh C' S' P
  | [], g => g
  | [c], g => ⟨g.1, fw_le_tr (h c g.1) g.2⟩
  | c :: d :: t, g => ⟨g.1, fw_le_tr (h c g.1) g.2.1, g.2.2.1, g.2.2.2.1, g.2.2.2.2.1, fw_mono h g.2.2.2.2.2⟩
theorem fw_lt : ∀ {P : List Nat}, fw_Gd E F nx sh C S P → ∀ x ∈ P, x < 64
  | [], g, _, _ => g.elim
  | [c], g, x, hx => by rw [List.mem_singleton.mp hx]; exact g.1
  | c :: d :: t, g, x, hx => by
    rcases List.mem_cons.mp hx with e | e
    · rw [e]; exact g.1
    · exact fw_lt g.2.2.2.2.2 x e
theorem fw_nd : ∀ {P : List Nat}, fw_Gd E F nx sh C S P → P.Nodup
  | [], g => g.elim
  | [c], _ => List.nodup_cons.mpr ⟨(fun h => by cases h), List.nodup_nil⟩
  | c :: d :: t, g => List.nodup_cons.mpr ⟨g.2.2.2.2.1, fw_nd g.2.2.2.2.2⟩
theorem fw_pn (hE : ∀ c, c < 64 → 0 ≤ E c) (hF : 0 ≤ F) : ∀ {P : List Nat}, fw_Gd E F nx sh C S P → 0 ≤ fw_pc E F P
  | [], g => g.elim
  | [c], _ => Int.le_refl _
  | c :: d :: t, g => by
    have h1 := fw_pn hE hF g.2.2.2.2.2
    have h2 := hE c g.1
    have h3 := hE d (fw_lt g.2.2.2.2.2 d List.mem_cons_self)
    show 0 ≤ F + E c + E d + fw_pc E F (d :: t)
    omega
theorem fw_suf (hE : ∀ c, c < 64 → 0 ≤ E c) (hF : 0 ≤ F) {c : Nat} : ∀ {P : List Nat}, fw_Gd E F nx sh C S P → c ∈ P → fw_le (C c) (S c) (fw_pc E F P) ((P.length : Nat) - 1)
  | [], g, _ => g.elim
  | [d], g, h => by
    rw [List.mem_singleton.mp h]
    exact g.2
  | x :: d :: t, g, h => by
    rcases List.mem_cons.mp h with e | e
    · rw [e]
      have := g.2.1
      rw [List.length_cons]
      rw [show (((d :: t).length + 1 : Nat) : Int) - 1 = ((d :: t).length : Nat) by omega]
      exact this
    · have h1 := fw_suf hE hF g.2.2.2.2.2 e
      have h2 := hE x g.1
      have h3 := hE d (fw_lt g.2.2.2.2.2 d List.mem_cons_self)
      rw [List.length_cons]
      have e1 : fw_pc E F (x :: d :: t) = F + E x + E d + fw_pc E F (d :: t) := rfl
      rw [e1]
      unfold fw_le at *
      omega
theorem fw_len : ∀ (n : Nat) (P : List Nat), P.Nodup → (∀ x ∈ P, x < n) → P.length ≤ n
  | 0, [], _, _ => Nat.le_refl _
  | 0, a :: r, _, h => absurd (h a List.mem_cons_self) (by omega)
  | n + 1, P, hn, h => by
    by_cases hm : n ∈ P
    · have h1 := fw_len n (P.erase n) (hn.erase n) (fun x hx => by
        have h2 := (hn.mem_erase_iff).mp hx
        have h3 := h x h2.2
        have h4 := h2.1
        omega)
      rw [List.length_erase_of_mem hm] at h1
      omega
    · have h1 := fw_len n P hn (fun x hx => by
        have h3 := h x hx
        have h4 : x ≠ n := fun e => hm (e ▸ hx)
        omega)
      omega
theorem fw_steps (hi : fw_Iv E F nx sh C S) {c : Nat} (hc : c < 64) : 0 ≤ S c ∧ S c ≤ 63 ∧ 0 ≤ C c ∧ C c ≤ fw_far := by
  rcases hi c hc with h | ⟨h1, h2, t, g, h3, h4⟩
  · unfold fw_far at *
    omega
  · have h5 := fw_len 64 _ (fw_nd g) (fw_lt g)
    rw [List.length_cons] at h5
    unfold fw_far at *
    omega
theorem fw_relax (hE : ∀ c, c < 64 → 0 ≤ E c) (hF : 0 ≤ F) (hi : fw_Iv E F nx sh C S) {c d : Nat} (hc : c < 64) (hd : d < 64) (hn : nx c d) (hs : sh c = 0) (hf : C d < fw_far) (hl : C d + F + E c + E d < C c ∨ (C d + F + E c + E d = C c ∧ S d + 1 < S c)) (e1 : C' c = C d + F + E c + E d) (e2 : S' c = S d + 1) (eo : ∀ x, x < 64 → x ≠ c → C' x = C x ∧ S' x = S x) : fw_Iv E F nx sh C' S' ∧ S d + 1 ≤ 63 := by
  have hEc := hE c hc
  have hEd := hE d hd
  rcases hi d hd with h | ⟨h1, h2, t, g, h3, h4⟩
  · exfalso; omega
  · have hni : ¬ c ∈ d :: t := fun hm => by
      have h5 := fw_suf hE hF g hm
      rw [← h3, List.length_cons] at h5
      unfold fw_le at h5
      omega
    have mono : ∀ x, x < 64 → fw_le (C' x) (S' x) (C x) (S x) := fun x hx => by
      by_cases e : x = c
      · rw [e, e1, e2]
        unfold fw_le
        omega
      · rw [(eo x hx e).1, (eo x hx e).2]
        unfold fw_le
        omega
    have g2 := fw_mono (E := E) (F := F) (nx := nx) (sh := sh) mono g
    have e3 : fw_pc E F (c :: d :: t) = F + E c + E d + fw_pc E F (d :: t) := rfl
    have g3 : fw_Gd E F nx sh C' S' (c :: d :: t) := ⟨hc, by
      rw [e1, e2, e3, ← h3, List.length_cons]
      unfold fw_le
      omega, hn, hs, hni, g2⟩
    have hlen := fw_len 64 _ (fw_nd g3) (fw_lt g3)
    rw [List.length_cons, List.length_cons] at hlen
    refine ⟨fun x hx => ?_, by omega⟩
    by_cases e : x = c
    · rw [e]
      right
      have h6 : C c ≤ fw_far := (fw_steps hi hc).2.2.2
      have h7 := fw_pn hE hF g3
      have h8 := fw_steps hi hc
      have h9 : C c < fw_far ∨ S c = 0 := by
        rcases hi c hc with k | ⟨_, k, _⟩
        · exact Or.inr k.2
        · exact Or.inl k
      refine ⟨by rw [e1]; omega, by rw [e1]; omega, d :: t, g3, ?_, ?_⟩
      · rw [e1, e3, ← h3]; omega
      · rw [e2, List.length_cons]; omega
    · rw [(eo x hx e).1, (eo x hx e).2]
      rcases hi x hx with k | ⟨k1, k2, t2, k3, k4⟩
      · exact Or.inl k
      · exact Or.inr ⟨k1, k2, t2, fw_mono mono k3, k4⟩
/-- where nothing can be made better each cell with steps has a next one -/
theorem fw_fix (hE : ∀ c, c < 64 → 0 ≤ E c) (hF : 0 ≤ F) (hi : fw_Iv E F nx sh C S) (hx : ∀ c d, c < 64 → d < 64 → nx c d → sh c = 0 → C d < fw_far → ¬ (C d + F + E c + E d < C c ∨ (C d + F + E c + E d = C c ∧ S d + 1 < S c))) {c : Nat} (hc : c < 64) (hf : C c < fw_far) (hp : 0 < S c) : ∃ d, d < 64 ∧ nx c d ∧ C d < fw_far ∧ S d + 1 = S c ∧ C d + F + E c + E d = C c := by
  rcases hi c hc with h | ⟨h1, h2, t, g, h3, h4⟩
  · exfalso; omega
  · match t, g, h3, h4 with
    | [], g, h3, h4 =>
      exfalso
      have : S c = 0 := h4
      omega
    | d :: t, g, h3, h4 =>
      have hd : d < 64 := fw_lt g.2.2.2.2.2 d List.mem_cons_self
      have h5 := fw_suf hE hF g.2.2.2.2.2 (c := d) List.mem_cons_self
      have e3 : fw_pc E F (c :: d :: t) = F + E c + E d + fw_pc E F (d :: t) := rfl
      rw [e3] at h3
      rw [List.length_cons] at h4 h5
      have hEc := hE c hc
      have hEd := hE d hd
      have hfd : C d < fw_far := by
        unfold fw_le at h5
        omega
      have h6 := hx c d hc hd g.2.2.1 g.2.2.2.1 hfd
      unfold fw_le at h5
      exact ⟨d, hd, g.2.2.1, hfd, by omega, by omega⟩
noncomputable def fw_sum (f : Nat → Int) : Nat → Int
  | 0 => 0
  | n + 1 => fw_sum f n + f n
theorem fw_sum_eq {f g : Nat → Int} : ∀ {n : Nat}, (∀ x, x < n → f x = g x) → fw_sum f n = fw_sum g n
  | 0, _ => rfl
  | n + 1, h => by
    show fw_sum f n + f n = fw_sum g n + g n
    rw [fw_sum_eq (fun x hx => h x (by omega)), h n (by omega)]
theorem fw_sum_one {f g : Nat → Int} {c : Nat} : ∀ {n : Nat}, c < n → (∀ x, x < n → x ≠ c → f x = g x) → fw_sum f n - f c = fw_sum g n - g c
  | 0, h, _ => absurd h (by omega)
  | n + 1, h, he => by
    show fw_sum f n + f n - f c = fw_sum g n + g n - g c
    by_cases e : c = n
    · have := fw_sum_eq (f := f) (g := g) (n := n) (fun x hx => he x (by omega) (by omega))
      rw [e]
      omega
    · have h1 := fw_sum_one (f := f) (g := g) (c := c) (n := n) (by omega) (fun x hx => he x (by omega))
      have h2 := he n (by omega) (fun z => e z.symm)
      omega
theorem fw_sum_nn {f : Nat → Int} : ∀ {n : Nat}, (∀ x, x < n → 0 ≤ f x) → 0 ≤ fw_sum f n
  | 0, _ => Int.le_refl _
  | n + 1, h => by
    have h1 := fw_sum_nn (f := f) (n := n) (fun x hx => h x (by omega))
    have h2 := h n (by omega)
    show 0 ≤ fw_sum f n + f n
    omega
/-- how much there is yet to fall -/
noncomputable def fw_ph (C S : Nat → Int) : Nat := (fw_sum (fun c => 100 * C c + S c) 64).toNat
theorem fw_fall (hi : fw_Iv E F nx sh C S) (hi2 : fw_Iv E F nx sh C' S') {c : Nat} (hc : c < 64) (hl : C' c < C c ∨ (C' c = C c ∧ S' c < S c)) (eo : ∀ x, x < 64 → x ≠ c → C' x = C x ∧ S' x = S x) : fw_ph C' S' < fw_ph C S := by
  have h1 := fw_sum_one (f := fun c => 100 * C' c + S' c) (g := fun c => 100 * C c + S c) (c := c) (n := 64) hc (fun x hx he => by
    show 100 * C' x + S' x = 100 * C x + S x
    rw [(eo x hx he).1, (eo x hx he).2])
  have h2 := fw_sum_nn (f := fun c => 100 * C' c + S' c) (n := 64) (fun x hx => by
    have := fw_steps hi2 hx
    show 0 ≤ 100 * C' x + S' x
    omega)
  have h3 := fw_steps hi hc
  have h4 := fw_steps hi2 hc
  have h1 : fw_sum (fun c => 100 * C' c + S' c) 64 - (100 * C' c + S' c) = fw_sum (fun c => 100 * C c + S c) 64 - (100 * C c + S c) := h1
  unfold fw_ph
  omega
end FW
