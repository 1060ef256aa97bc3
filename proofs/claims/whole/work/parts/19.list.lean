/-! ===== heaps as lists ===== -/
def srt : List Nat → Prop
  | [] => True
  | x :: t => (∀ y ∈ t, y ≤ x) ∧ srt t
def okl (l : List Nat) : Prop := srt l ∧ (∀ x ∈ l, 1 ≤ x) ∧ l.sum ≤ 18
def ins (m : Nat) : List Nat → List Nat
  | [] => [m]
  | x :: t => if x < m then m :: x :: t else x :: ins m t
theorem gd_mem : ∀ (l : List Nat) (i : Nat), i < l.length → l.getD i 0 ∈ l
  | [], i, h => by simp at h
  | x :: t, 0, h => by simp
  | x :: t, i + 1, h => by
    rw [List.getD_cons_succ]
    exact List.mem_cons_of_mem _ (gd_mem t i (by simpa using h))
theorem srt_get : ∀ (l : List Nat) (i j : Nat), srt l → i ≤ j → j < l.length → l.getD j 0 ≤ l.getD i 0
  | [], i, j, _, _, h => by simp at h
  | x :: t, 0, 0, _, _, _ => Nat.le_refl _
  | x :: t, 0, j + 1, hs, _, h => by
    rw [List.getD_cons_succ, List.getD_cons_zero]
    exact hs.1 _ (gd_mem t j (by simpa using h))
  | x :: t, i + 1, 0, _, h, _ => by omega
  | x :: t, i + 1, j + 1, hs, h, hj => by
    rw [List.getD_cons_succ, List.getD_cons_succ]
    exact srt_get t i j hs.2 (by omega) (by simpa using hj)
theorem ins_mem (m : Nat) : ∀ (l : List Nat) (x : Nat), x ∈ ins m l → x = m ∨ x ∈ l
  | [], x, h => by simp [ins] at h; exact Or.inl h
  | y :: t, x, h => by
    unfold ins at h
    split at h
    · rcases List.mem_cons.mp h with e | e
      · exact Or.inl e
      · exact Or.inr e
    · rcases List.mem_cons.mp h with e | e
      · exact Or.inr (by simp [e])
      · rcases ins_mem m t x e with e | e
        · exact Or.inl e
        · exact Or.inr (List.mem_cons_of_mem _ e)
theorem ins_len (m : Nat) : ∀ (l : List Nat), (ins m l).length = l.length + 1
  | [] => rfl
  | y :: t => by
    unfold ins
    split
    · simp
    · simp [ins_len m t]
theorem ins_sum (m : Nat) : ∀ (l : List Nat), (ins m l).sum = m + l.sum
  | [] => by simp [ins]
  | y :: t => by
    unfold ins
    split
    · simp
    · simp [ins_sum m t]; omega
theorem ins_srt (m : Nat) : ∀ (l : List Nat), srt l → srt (ins m l)
  | [], _ => ⟨fun y h => by simp at h, trivial⟩
  | y :: t, hs => by
    unfold ins
    split
    · rename_i c
      refine ⟨fun z hz => ?_, hs⟩
      rcases List.mem_cons.mp hz with e | e
      · omega
      · have := hs.1 z e; omega
    · rename_i c
      refine ⟨fun z hz => ?_, ins_srt m t hs.2⟩
      rcases ins_mem m t z hz with e | e
      · omega
      · exact hs.1 z e
theorem ins_get (m : Nat) : ∀ (l : List Nat) (i j : Nat), i ≤ l.length → (∀ q, q < i → m ≤ l.getD q 0) → (∀ q, i ≤ q → q < l.length → l.getD q 0 < m) → j < l.length + 1 → (ins m l).getD j 0 = if j < i then l.getD j 0 else if j = i then m else l.getD (j - 1) 0
  | [], i, j, hi, h1, h2, hj => by
    simp at hi hj
    subst hi; subst hj
    simp [ins]
  | x :: t, 0, j, hi, h1, h2, hj => by
    have c : x < m := by simpa using h2 0 (Nat.le_refl _) (by simp)
    unfold ins
    rw [if_pos c]
    cases j with
    | zero => simp
    | succ j => simp
  | x :: t, i + 1, j, hi, h1, h2, hj => by
    have c : ¬ x < m := by have := h1 0 (by omega); simp at this; omega
    unfold ins
    rw [if_neg c]
    cases j with
    | zero => simp
    | succ j =>
      rw [List.getD_cons_succ, ins_get m t i j (by simpa using hi) (fun q hq => by have := h1 (q + 1) (by omega); simpa using this) (fun q h3 h4 => by have := h2 (q + 1) (by omega) (by simp; omega); simpa using this) (by simpa using hj)]
      simp only [Nat.add_lt_add_iff_right, Nat.add_right_cancel_iff, Nat.add_sub_cancel, List.getD_cons_succ]
      by_cases d : j < i
      · simp only [d, if_true]
      · by_cases e : j = i
        · simp only [e, Nat.lt_irrefl, if_false, if_true]
        · simp only [d, e, if_false]
          obtain ⟨j', rfl⟩ : ∃ j', j = j' + 1 := ⟨j - 1, by omega⟩
          rw [List.getD_cons_succ, Nat.add_sub_cancel]
theorem len_sum : ∀ (l : List Nat), (∀ x ∈ l, 1 ≤ x) → l.length ≤ l.sum
  | [], _ => by simp
  | x :: t, h => by
    have h1 := h x (by simp)
    have h2 := len_sum t (fun y hy => h y (List.mem_cons_of_mem _ hy))
    simp
    omega
theorem okl.len {l : List Nat} (h : okl l) : l.length ≤ 18 := by
  have := len_sum l h.2.1
  have := h.2.2
  omega
theorem okl_ins {m : Nat} {l : List Nat} (h : okl l) (hm : 1 ≤ m) (hs : m + l.sum ≤ 18) : okl (ins m l) :=
  ⟨ins_srt m l h.1, fun x hx => by rcases ins_mem m l x hx with e | e; · omega
                                   · exact h.2.1 x e, by rw [ins_sum]; exact hs⟩
theorem okl_nil : okl [] := ⟨trivial, fun x h => by simp at h, by simp⟩
theorem gd_sum : ∀ (l : List Nat) (i : Nat), l.getD i 0 ≤ l.sum
  | [], i => by simp
  | x :: t, 0 => by simp
  | x :: t, i + 1 => by
    have := gd_sum t i
    rw [List.getD_cons_succ, List.sum_cons]
    omega
/-- the first places of F are l -/
def arr (F : Nat → Nat) (l : List Nat) : Prop := ∀ i, i < l.length → F i = l.getD i 0
/-- a row's cells at a, b hold l -/
def Rw (h : mH) (a b : Nat) (l : List Nat) : Prop := hc h a = some (.inr (3, [.ref b, .int (nI l.length), .int (nI l.sum)])) ∧ ∃ F, hc h b = some (aI 18 F) ∧ arr F l
theorem Rw.at {h h' : mH} {A : List Nat} {a b : Nat} {l : List Nat} (r : Rw h a b l) (x : hx A h h') (n1 : a ∉ A) (n2 : b ∉ A) : Rw h' a b l := by
  obtain ⟨r1, F, r2, r3⟩ := r
  exact ⟨x.at n1 r1, F, x.at n2 r2, r3⟩
