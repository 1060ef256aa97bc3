/-! ===== heaps of like size: facts that a count decides ===== -/
def rlA (c : Nat) : List (Nat × Nat) → List (Nat × Nat)
  | [] => [(c, 1)]
  | q :: t => if t = [] then (if q.1 = c then [(q.1, q.2 + 1)] else [q, (c, 1)]) else q :: rlA c t
def rl (l : List Nat) : Nat → List (Nat × Nat)
  | 0 => []
  | i + 1 => rlA (l.getD i 0) (rl l i)
def chkR (n : Nat) : Bool := (List.range (cap n n)).all (fun k => rl (wr n k) (wr n k).length == dsF (fun c => cn c (wr n k)) n)
theorem chkR_all : ∀ n, n < 19 → chkR n = true := by decide +kernel
