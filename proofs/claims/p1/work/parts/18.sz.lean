def sc (a0 a1 a2 a3 a4 a5 : Int32) : Nat → Int32 := fun j => match j with
  | 0 => a0
  | 1 => a1
  | 2 => a2
  | 3 => a3
  | 4 => a4
  | _ => a5
def sz (a0 a1 a2 a3 a4 a5 : Int32) : pq_C := .inl (.int, 6, .inl (sc a0 a1 a2 a3 a4 a5))
theorem br_eq_fs {x y : Int32} {b : Int} (hx : x.toInt = b) (h : ¬ y.toInt = b) : pq_br .eq x y = false := decide_eq_false (fun z => h (by rw [← z, hx]))
theorem br_ne_ts {x y : Int32} {b : Int} (hx : x.toInt = b) (h : ¬ y.toInt = b) : pq_br .ne x y = true := decide_eq_true (fun z => h (by rw [← z, hx]))
theorem law_tail {w : pq_W} {f : Nat → Int32} (hr : w[0]? = some (.inl (.int, 6, .inl f))) : pq_Go 20 pm_law 1667 [(3, .int 0), (2, .ref 90), (1, .ref 1), (0, .ref 0)] [] w 109 12668 (some (.int 1), w) := by
  refine go_seg 4 (pc' := 20) (ls' := [(3, .int 6), (2, .ref 90), (1, .ref 1), (0, .ref 0)]) (st' := [.ref 0, .int 6]) (w' := w) (cs' := 109) (ss' := 12668) ?_ (fun _ _ => rfl)
  refine go_alen (n := 6) rfl hr rfl ?_
  rw [show nI 6 = (6 : Int32) from by decide +kernel]
  refine go_seg 2 (pc' := 24) (ls' := [(3, .int 6), (2, .ref 90), (1, .ref 1), (0, .ref 0)]) (st' := [.int 0, .int 6]) (w' := w) (cs' := 109) (ss' := 12668) ?_ (fun _ _ => rfl)
  exact go_end 3 (fun _ _ => rfl)
theorem br_self (x : Int32) : pq_br .eq x x = true := decide_eq_true rfl
def fwd (a1 a2 : Int32) : Int64 := (a1.toInt64 <<< ((32 : Int32).toInt64 &&& 63)) ||| (a2.toInt64 &&& 4294967295)
