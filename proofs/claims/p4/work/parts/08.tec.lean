/-- what is checked of a row, but for its bytes -/
def pq_eof (tab : List pq_M) (M : pq_M) (q : pq_N) : Bool := match q with
  | (pc, cat, nx, i, a, v, t) => match cat with
    | 15 => pq_eok tab M (pc, 15, nx, i, a, v, t)
    | cat => Nat.beq nx (pc + pq_il i) && pq_eo tab M cat pc i a v t
theorem pd_row {tab : List pq_M} {M : pq_M} {q : pq_N} (h : pq_eof tab M q = true) (hd : pd_Q (pq_by M) q) : pq_eok tab M q = true := by
  obtain ⟨pc, cat, nx, i, a, v, t⟩ := q
  by_cases hc : cat = 15
  · subst hc
    exact h
  · have hd : decode (pq_by M) pc = .ok (i, pq_il i) := by
      rcases hd with hd | hd
      · exact absurd (Nat.eq_of_beq_eq_true hd) hc
      · exact hd
    have h : (Nat.beq nx (pc + pq_il i) && pq_eo tab M cat pc i a v t) = true := by
      unfold pq_eof at h
      split at h
      rename_i e
      cases e
      split at h
      · exact absurd rfl hc
      · exact h
    unfold pq_eok
    split
    rename_i e
    cases e
    split
    · exact absurd rfl hc
    · rw [Bool.and_eq_true] at h
      rw [Bool.and_eq_true, Bool.and_eq_true]
      exact ⟨⟨decide_eq_true hd, h.1⟩, h.2⟩
def pd_chk (tab : List pq_M) (M : pq_M) : Bool := pd_gos (pq_cd M) 0 ((pq_by M).data.toList.map UInt8.toNat) && (pq_cd M).all (fun b => b.2.all (pq_eof tab M))
theorem pd_rows {tab : List pq_M} {M : pq_M} (h : pd_chk tab M = true) : (pq_cd M).all (fun b => b.2.all (pq_eok tab M)) = true := by
  unfold pd_chk at h
  rw [Bool.and_eq_true] at h
  have h1 := pd_gos_ok h.1 (pd_by _)
  have h2 := List.all_eq_true.mp h.2
  refine List.all_eq_true.mpr (fun b hb => List.all_eq_true.mpr (fun q hq => ?_))
  exact pd_row (List.all_eq_true.mp (h2 b hb) q hq) (h1 b hb q hq)
