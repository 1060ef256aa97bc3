/-! ===== rows of small numbers held in one number ===== -/
def gt (X j : Nat) : Nat := (X >>> (9 * j)) % 512
def st (X j v : Nat) : Nat := X + (v <<< (9 * j)) - ((gt X j) <<< (9 * j))
theorem gt_lt (X j : Nat) : gt X j < 512 := Nat.mod_lt _ (by decide)
theorem pw9 (j : Nat) : 2 ^ (9 * j) = 512 ^ j := by rw [Nat.pow_mul]
theorem gt_eq (X j : Nat) : gt X j = X / 512 ^ j % 512 := by rw [gt, Nat.shiftRight_eq_div_pow, pw9]
theorem st_eq (X j v : Nat) : st X j v = X + v * 512 ^ j - gt X j * 512 ^ j := by rw [st, Nat.shiftLeft_eq, Nat.shiftLeft_eq, pw9]
theorem st_form (X j v : Nat) : ∃ A B, B < 512 ^ j ∧ X = (A * 512 + gt X j) * 512 ^ j + B ∧ st X j v = (A * 512 + v) * 512 ^ j + B := by
  have hp : 0 < 512 ^ j := Nat.pow_pos (by decide)
  refine ⟨X / 512 ^ j / 512, X % 512 ^ j, Nat.mod_lt _ hp, ?_, ?_⟩
  · rw [gt_eq]
    have e1 := Nat.div_add_mod X (512 ^ j)
    have e2 := Nat.div_add_mod (X / 512 ^ j) 512
    rw [Nat.mul_comm] at e1
    rw [Nat.mul_comm (X / 512 ^ j / 512) 512, e2]
    exact e1.symm
  · rw [st_eq, gt_eq]
    have e1 := Nat.div_add_mod X (512 ^ j)
    have e2 := Nat.div_add_mod (X / 512 ^ j) 512
    generalize X / 512 ^ j / 512 = A at e2 ⊢
    generalize X / 512 ^ j % 512 = q at e2 ⊢
    generalize X % 512 ^ j = B at e1 ⊢
    rw [← e2] at e1
    rw [← e1, Nat.add_mul, Nat.mul_add, Nat.mul_comm A 512, Nat.mul_comm (512 ^ j) (512 * A), Nat.mul_comm (512 ^ j) q]
    omega
theorem gt_form {A B j q : Nat} (hB : B < 512 ^ j) (hq : q < 512) : gt ((A * 512 + q) * 512 ^ j + B) j = q := by
  have hp : 0 < 512 ^ j := Nat.pow_pos (by decide)
  rw [gt_eq, Nat.mul_comm, Nat.mul_add_div hp, Nat.div_eq_of_lt hB]
  omega
theorem gt_st_eq (X j : Nat) {v : Nat} (hv : v < 512) : gt (st X j v) j = v := by
  obtain ⟨A, B, hB, -, e2⟩ := st_form X j v
  rw [e2]
  exact gt_form hB hv
theorem gt_lo {Y B i j : Nat} (h : i < j) : gt (Y * 512 ^ j + B) i = gt B i := by
  obtain ⟨d, rfl⟩ : ∃ d, j = i + (d + 1) := ⟨j - i - 1, by omega⟩
  have hp : 0 < 512 ^ i := Nat.pow_pos (by decide)
  rw [gt_eq, gt_eq, Nat.pow_add, Nat.pow_succ]
  rw [show Y * (512 ^ i * (512 ^ d * 512)) + B = 512 ^ i * (Y * 512 ^ d * 512) + B by rw [Nat.mul_left_comm, Nat.mul_assoc]]
  rw [Nat.mul_add_div hp]
  omega
theorem gt_hi {Y B i j : Nat} (hB : B < 512 ^ j) (h : j ≤ i) : gt (Y * 512 ^ j + B) i = gt Y (i - j) := by
  obtain ⟨d, rfl⟩ : ∃ d, i = j + d := ⟨i - j, by omega⟩
  have hp : 0 < 512 ^ j := Nat.pow_pos (by decide)
  rw [gt_eq, gt_eq, Nat.pow_add, ← Nat.div_div_eq_div_mul, Nat.mul_comm Y, Nat.mul_add_div hp, Nat.div_eq_of_lt hB, Nat.add_zero, Nat.add_sub_cancel_left]
theorem gt_st_ne (X : Nat) {i j : Nat} (v : Nat) (hv : v < 512) (h : i ≠ j) : gt (st X j v) i = gt X i := by
  obtain ⟨A, B, hB, e1, e2⟩ := st_form X j v
  have e3 : gt X i = gt ((A * 512 + gt X j) * 512 ^ j + B) i := by rw [← e1]
  rw [e2, e3]
  by_cases c : i < j
  · rw [gt_lo c, gt_lo c]
  · rw [gt_hi hB (by omega), gt_hi hB (by omega)]
    obtain ⟨d, hd⟩ : ∃ d, i - j = d + 1 := ⟨i - j - 1, by omega⟩
    rw [hd]
    have key : ∀ q, q < 512 → gt (A * 512 + q) (d + 1) = gt A d := by
      intro q hq
      have := gt_hi (Y := A) (B := q) (i := d + 1) (j := 1) (by simpa using hq) (by omega)
      rw [Nat.pow_one] at this
      rw [this, Nat.add_sub_cancel]
    rw [key _ hv, key _ (gt_lt X j)]
theorem gt_0 (j : Nat) : gt 0 j = 0 := by simp [gt]
/-! ===== a chart as the class draws it, over numbers ===== -/
def NN (s : Nat) : Nat := cap (s % 19) (s % 19)
def coS (s : Nat) : Nat → Nat
  | 0 => 0
  | k + 1 => st (coS s k) (nx s k) (gt (coS s k) (nx s k) + 1)
/-- what comes from none: the order's first places, and how many -/
def o1S (c : Nat) : Nat → Nat × Nat
  | 0 => (0, 0)
  | k + 1 => if gt c k = 0 then (st (o1S c k).1 (o1S c k).2 k, (o1S c k).2 + 1) else o1S c k
def pe2 (s N : Nat) : Nat → Nat → Nat → Nat → Nat → Option (Nat × Nat × Nat)
  | 0, _, _, _, _ => none
  | f + 1, i, w, o, p => if i < p then
      (if gt w (nx s (gt o i)) = 0 then none else
        if gt w (nx s (gt o i)) = 1 ∧ p < N then pe2 s N f (i + 1) (st w (nx s (gt o i)) (gt w (nx s (gt o i)) - 1)) (st o p (nx s (gt o i))) (p + 1)
        else pe2 s N f (i + 1) (st w (nx s (gt o i)) (gt w (nx s (gt o i)) - 1)) o p)
    else some (w, o, p)
def dr1 (s N q : Nat) : Nat → Nat → Nat → Nat → Nat → Option (Nat × Nat × Nat × Nat)
  | 0, _, _, _, _ => none
  | f + 1, k, m, w, le => if m < N ∧ 0 < gt w k then dr1 s N q f (nx s k) (m + 1) (st w k 0) (st le k q) else some (k, m, w, le)
def dr2 (s m : Nat) : Nat → Nat → Nat → Nat
  | 0, _, be => be
  | i + 1, k, be => dr2 s m i (nx s k) (st be k m)
/-- lonely, waiting, leaders, beats, rings, rounds, greatest beat -/
abbrev rgT : Type := Nat × Nat × Nat × Nat × Nat × Nat × Nat
def mx (x y : Nat) : Nat := if x < y then y else x
def rgS (s N c : Nat) (R : rgT) (k : Nat) : Option rgT :=
  if 0 < gt R.2.1 k then
    match dr1 s N k (N + 1) k 0 R.2.1 R.2.2.1 with
    | none => none
    | some q => some (R.1 + (if gt c k = 0 then 1 else 0), q.2.2.1, q.2.2.2, dr2 s q.2.1 q.2.1 q.1 R.2.2.2.1, R.2.2.2.2.1 + 1, R.2.2.2.2.2.1 + q.2.1, mx R.2.2.2.2.2.2 q.2.1)
  else some (R.1 + (if gt c k = 0 then 1 else 0), R.2)
def rgN (s N c : Nat) : Nat → Nat → rgT → Option rgT
  | 0, _, R => some R
  | d + 1, k, R => match rgS s N c R k with
    | none => none
    | some R' => rgN s N c d (k + 1) R'
/-- tails, beats, leaders, greatest tail -/
abbrev tlT : Type := Nat × Nat × Nat × Nat
def tlS (s o : Nat) : Nat → tlT → tlT
  | 0, T => T
  | i + 1, T => tlS s o i (st T.1 (gt o i) (gt T.1 (nx s (gt o i)) + 1), st T.2.1 (gt o i) (gt T.2.1 (nx s (gt o i))), st T.2.2.1 (gt o i) (gt T.2.2.1 (nx s (gt o i))), mx T.2.2.2 (gt T.1 (nx s (gt o i)) + 1))
def peM (s : Nat) : Option (Nat × Nat × Nat) := pe2 s (NN s) (NN s + 1) 0 (coS s (NN s)) (o1S (coS s (NN s)) (NN s)).1 (o1S (coS s (NN s)) (NN s)).2
def rgM (s : Nat) : Option rgT := match peM s with
  | none => none
  | some p => rgN s (NN s) (coS s (NN s)) (NN s) 0 (0, p.1, 0, 0, 0, 0, 0)
def tlM (s : Nat) : Option tlT := match peM s with
  | none => none
  | some p => match rgM s with
    | none => none
    | some R => some (tlS s p.2.1 p.2.2 (0, R.2.2.2.1, R.2.2.1, 0))
/-- comers, tails, beats, leaders; rings, rounds, greatest tail, lonely, greatest beat -/
abbrev chT : Type := (Nat × Nat × Nat × Nat) × Nat × Nat × Nat × Nat × Nat
def chM (s : Nat) : Option chT := match rgM s with
  | none => none
  | some R => match tlM s with
    | none => none
    | some T => some ((coS s (NN s), T.1, T.2.1, T.2.2.1), R.2.2.2.2.1, R.2.2.2.2.2.1, T.2.2.2, R.1, R.2.2.2.2.2.2)
def CH (s : Nat) : chT := (chM s).getD ((0, 0, 0, 0), 0, 0, 0, 0, 0)
def c_co (s k : Nat) : Nat := gt (CH s).1.1 k
def c_ta (s k : Nat) : Nat := gt (CH s).1.2.1 k
def c_be (s k : Nat) : Nat := gt (CH s).1.2.2.1 k
def c_le (s k : Nat) : Nat := gt (CH s).1.2.2.2 k
/-! the same as the check's second program finds it -/
def it (s : Nat) : Nat → Nat → Nat
  | 0, k => k
  | j + 1, k => nx s (it s j k)
def itF (s : Nat) : Nat → Nat → Nat
  | 0, k => k
  | j + 1, k => itF s j (nx s k)
def cyF (s R : Nat) : Nat → Nat → Nat → Nat → Option (Nat × Nat)
  | 0, _, _, _ => none
  | f + 1, at_, le, b => if b ≠ 0 ∧ at_ = R then some (b, le) else cyF s R f (nx s at_) (if nx s at_ < le then nx s at_ else le) (b + 1)
def irF (s k : Nat) : Nat → Nat → Bool
  | 0, _ => false
  | i + 1, a => if a = k then true else irF s k i (nx s a)
def okN (s : Nat) (C : chT) (k : Nat) : Bool :=
  (!(gt C.1.2.1 k == 0) || (cyF s k (NN s + 1) k k 0 == some (gt C.1.2.2.1 k, gt C.1.2.2.2 k) && itF s (gt C.1.2.2.1 k) k == k && !(gt C.1.1 k == 0))) && (irF s k (gt C.1.2.2.1 k) (gt C.1.2.2.2 k) == (gt C.1.2.1 k == 0)) && (gt C.1.2.1 (nx s k) == gt C.1.2.1 k - 1) && (gt C.1.2.2.1 (nx s k) == gt C.1.2.2.1 k) && (gt C.1.2.2.2 (nx s k) == gt C.1.2.2.2 k) && Nat.ble (gt C.1.2.1 k + gt C.1.2.2.1 k) (NN s) && (!(nx s k == k) || (gt C.1.2.1 k == 0)) && Nat.ble 1 (gt C.1.2.2.1 k) && Nat.ble (gt C.1.1 k) (NN s) && Nat.blt (gt C.1.2.2.2 k) (NN s) && Nat.blt (nx s k) (NN s)
def cntF (P : Nat → Bool) : Nat → Nat
  | 0 => 0
  | k + 1 => cntF P k + (if P k then 1 else 0)
def mxN (f : Nat → Nat) : Nat → Nat
  | 0 => 0
  | k + 1 => mx (mxN f k) (f k)
def allN (P : Nat → Bool) : Nat → Bool
  | 0 => true
  | k + 1 => allN P k && P k
def okC (s : Nat) (C : chT) : Bool :=
  allN (okN s C) (NN s) && (cntF (fun k => gt C.1.2.2.2 k == k) (NN s) == C.2.1) && (cntF (fun k => gt C.1.2.1 k == 0) (NN s) == C.2.2.1) && (mxN (fun k => gt C.1.2.1 k) (NN s) == C.2.2.2.1) && (cntF (fun k => gt C.1.1 k == 0) (NN s) == C.2.2.2.2.1) && (mxN (fun k => gt C.1.2.2.1 k) (NN s) == C.2.2.2.2.2)
def chkC (s : Nat) : Bool := match chM s with
  | none => false
  | some C => okC s C
