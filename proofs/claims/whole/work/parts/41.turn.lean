/-! ===== turned on its side: facts that a count decides ===== -/
def gcN (l : List Nat) (i : Nat) : Nat → Nat
  | 0 => 0
  | k + 1 => gcN l i k + (if i < l.getD k 0 then 1 else 0)
def mvN (l : List Nat) : Nat → List Nat
  | 0 => []
  | i + 1 => mvN l i ++ [gcN l i l.length]
def chkT (n : Nat) : Bool := (List.range (cap n n)).all (fun k => (List.range ((wr n k).getD 0 0 + 1)).all (fun i => okB (trnN (wr n k) i)) && mvN (wr n k) ((wr n k).getD 0 0) == trn (wr n k) && (trn (wr n k)).sum == n)
theorem chkT_all : ∀ n, n < 19 → chkT n = true := by decide +kernel
theorem okB_ok {l : List Nat} (h : okB l = true) : okl l := by
  simp only [okB, Bool.and_eq_true, List.all_eq_true, decide_eq_true_eq] at h
  exact ⟨srtB_ok _ h.1.1, h.1.2, h.2⟩
theorem trn_ok {l : List Nat} (h : okl l) : (∀ i, i ≤ l.getD 0 0 → okl (trnN l i)) ∧ mvN l (l.getD 0 0) = trn l ∧ (trn l).sum = l.sum := by
  have hs := h.2.2
  have c := chkT_all l.sum (by omega)
  unfold chkT at c
  have := List.all_eq_true.mp c (nb l) (List.mem_range.mpr (nb_lt h))
  rw [wr_nb h] at this
  simp only [Bool.and_eq_true, List.all_eq_true, beq_iff_eq, List.mem_range] at this
  exact ⟨fun i hi => okB_ok (this.1.1 i (by omega)), this.1.2, this.2⟩
theorem ins_self (m : Nat) : ∀ l : List Nat, m ∈ ins m l
  | [] => by simp [ins]
  | x :: t => by
    unfold ins
    split
    · simp
    · exact List.mem_cons_of_mem _ (ins_self m t)
