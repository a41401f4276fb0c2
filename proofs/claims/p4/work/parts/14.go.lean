/-! runs of the pure machine, told by what they come to; k: how deep the calls go -/
def pq_Go (k : Nat) (M : pq_M) (pc : Nat) (ls : pq_L) (st : List Value) (w : pq_W) (cs ss : Nat) (res : pq_R) : Prop :=
  ∃ N, ∀ d F f, k ≤ d → N ≤ F → N ≤ f → pq_exec (pq_run pq_tab F d) (pq_lim pq_tab) (pq_lm M) (pq_rt M) (pq_cd M) f pc ls st w cs ss = some res
def pq_Ru (k j : Nat) (as : List Value) (w : pq_W) (res : pq_R) : Prop := ∃ N, ∀ d F, k ≤ d → N ≤ F → pq_run pq_tab F d j as w = some res
section PQG
variable {k k1 : Nat} {M : pq_M} {pc pc' cs ss cs' ss' : Nat} {ls ls' : pq_L} {st st' : List Value} {w w' : pq_W} {res : pq_R}
theorem go_seg (n : Nat) (g : pq_Go k M pc' ls' st' w' cs' ss' res) (h : ∀ (call : Nat → List Value → pq_W → Option pq_R) (f : Nat), pq_exec call (pq_lim pq_tab) (pq_lm M) (pq_rt M) (pq_cd M) (f + n) pc ls st w cs ss = pq_exec call (pq_lim pq_tab) (pq_lm M) (pq_rt M) (pq_cd M) f pc' ls' st' w' cs' ss') : pq_Go k M pc ls st w cs ss res := by
  obtain ⟨N, g⟩ := g
  refine ⟨N + n, fun d F f h1 h2 h3 => ?_⟩
  obtain ⟨f', rfl⟩ : ∃ f', f = f' + n := ⟨f - n, by omega⟩
  rw [h]
  exact g d F f' h1 (by omega) (by omega)
theorem go_end (n : Nat) (h : ∀ (call : Nat → List Value → pq_W → Option pq_R) (f : Nat), pq_exec call (pq_lim pq_tab) (pq_lm M) (pq_rt M) (pq_cd M) (f + n) pc ls st w cs ss = some res) : pq_Go k M pc ls st w cs ss res := by
  refine ⟨n, fun d F f h1 h2 h3 => ?_⟩
  obtain ⟨f', rfl⟩ : ∃ f', f = f' + n := ⟨f - n, by omega⟩
  exact h _ f'
theorem go_call (n : Nat) {j : Nat} {as : List Value} {w0 w1 : pq_W} {r : Option Value} (hk : k1 ≤ k) (hr : pq_Ru k1 j as w0 (r, w1)) (g : pq_Go k M pc' ls' st' w' cs' ss' res)
    (h : ∀ (call : Nat → List Value → pq_W → Option pq_R) (f : Nat), call j as w0 = some (r, w1) → pq_exec call (pq_lim pq_tab) (pq_lm M) (pq_rt M) (pq_cd M) (f + n) pc ls st w cs ss = pq_exec call (pq_lim pq_tab) (pq_lm M) (pq_rt M) (pq_cd M) f pc' ls' st' w' cs' ss') : pq_Go k M pc ls st w cs ss res := by
  obtain ⟨N, g⟩ := g
  obtain ⟨N1, hr⟩ := hr
  refine ⟨N + N1 + n, fun d F f h1 h2 h3 => ?_⟩
  obtain ⟨f', rfl⟩ : ∃ f', f = f' + n := ⟨f - n, by omega⟩
  rw [h _ _ (hr d F (by omega) (by omega))]
  exact g d F f' h1 (by omega) (by omega)
theorem go_if {pc0 nx t tgt : Nat} {c : Jvm.ClassFile.Cond} {off : Int} {a : List Nat} {v : Value} {x : Int32} (b : Bool) (hq : pq_look (pq_cd M) pc = some (pc0, 12, nx, .ifCond c off, tgt :: a, v, t)) (hb : pq_br c x 0 = b) (g : pq_Go k M (bif b then tgt else nx) ls st w cs ss res) : pq_Go k M pc ls (.int x :: st) w cs ss res := by
  refine go_seg 1 g (fun call f => ?_)
  rw [pq_exec_s, hq]
  show (bif pq_br c x 0 then _ else _) = _
  rw [hb]
  cases b <;> rfl
theorem go_cmp {pc0 nx t tgt : Nat} {c : Jvm.ClassFile.Cond} {off : Int} {a : List Nat} {v : Value} {x y : Int32} (b : Bool) (hq : pq_look (pq_cd M) pc = some (pc0, 13, nx, .if_icmp c off, tgt :: a, v, t)) (hb : pq_br c x y = b) (g : pq_Go k M (bif b then tgt else nx) ls st w cs ss res) : pq_Go k M pc ls (.int y :: .int x :: st) w cs ss res := by
  refine go_seg 1 g (fun call f => ?_)
  rw [pq_exec_s, hq]
  show (bif pq_br c x y then _ else _) = _
  rw [hb]
  cases b <;> rfl
theorem ru_of {j : Nat} {as : List Value} (hM : pq_tab[j]? = some M) (hc : (Nat.ble (pq_sum as) (pq_mL M) && pq_rcv M as w) = true) (g : pq_Go k M 0 (lv_args 0 as) [] w 0 0 res) : pq_Ru (k + 1) j as w res := by
  obtain ⟨N, g⟩ := g
  refine ⟨N, fun d F h1 h2 => ?_⟩
  obtain ⟨d', rfl⟩ : ∃ d', d = d' + 1 := ⟨d - 1, by omega⟩
  show (match pq_tab[j]? with
    | some M => bif Nat.ble (pq_sum as) (pq_mL M) && pq_rcv M as w then pq_exec (pq_run pq_tab F d') (pq_lim pq_tab) (pq_lm M) (pq_rt M) (pq_cd M) F 0 (lv_args 0 as) [] w 0 0 else none
    | none => none) = some res
  rw [hM]
  show (bif Nat.ble (pq_sum as) (pq_mL M) && pq_rcv M as w then _ else none) = _
  rw [hc]
  exact g d' F F (by omega) h2 h2
theorem ru_mono {k2 j : Nat} {as : List Value} (h : pq_Ru k j as w res) (hk : k ≤ k2) : pq_Ru k2 j as w res := by
  obtain ⟨N, h⟩ := h
  exact ⟨N, fun d F h1 h2 => h d F (by omega) h2⟩
end PQG
