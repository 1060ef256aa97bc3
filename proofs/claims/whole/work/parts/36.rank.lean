/-! ===== each parting has its number, and a number its parting ===== -/
def nbG : List Nat → Nat → Nat → Nat
  | [], _, _ => 0
  | c :: t, left, cp => (cap left cp - cap left c) + nbG t (left - c) c
theorem drop_cons : ∀ (l : List Nat) (i : Nat), i < l.length → l.drop i = l.getD i 0 :: l.drop (i + 1)
  | [], i, h => by simp at h
  | x :: t, 0, h => by simp
  | x :: t, i + 1, h => by
    rw [List.drop_succ_cons, List.drop_succ_cons, List.getD_cons_succ]
    exact drop_cons t i (by simpa using h)
theorem nb_G (l : List Nat) : ∀ i, i ≤ l.length → (nbN l i).1 + nbG (l.drop i) (nbN l i).2.1 (nbN l i).2.2 = nbG l l.sum l.sum
  | 0, _ => by simp [nbN]
  | i + 1, hi => by
    rw [← nb_G l i (by omega), drop_cons l i (by omega)]
    exact Nat.add_assoc _ _ _
theorem nb_eq (l : List Nat) : nb l = nbG l l.sum l.sum := by
  have := nb_G l l.length (Nat.le_refl _)
  rw [List.drop_length] at this
  exact this
theorem cap_step {n m : Nat} (hn : n < 19) (hm1 : 1 ≤ m) (hm : m ≤ n) : cap n m = cap n (m - 1) + cap (n - m) m := by
  obtain ⟨a, rfl⟩ : ∃ a, n = a + 1 := ⟨n - 1, by omega⟩
  obtain ⟨b, rfl⟩ : ∃ b, m = b + 1 := ⟨m - 1, by omega⟩
  have := cap_nm a (by omega) b (by omega)
  rw [if_pos (by omega)] at this
  unfold cap
  rw [this, show a + 1 - (b + 1) = a - b by omega, show b + 1 - 1 = b by omega]
theorem cap_pos : ∀ m, m < 19 → cap 0 m = 1 := by decide +kernel
/-- sorted, positive, sum left, first at most cp -/
def gok (l : List Nat) (left cp : Nat) : Prop := srt l ∧ (∀ x ∈ l, 1 ≤ x) ∧ l.sum = left ∧ (∀ x ∈ l, x ≤ cp) ∧ left < 19 ∧ cp < 19
theorem gok.tl {c : Nat} {t : List Nat} {left cp : Nat} (h : gok (c :: t) left cp) : gok t (left - c) c ∧ 1 ≤ c ∧ c ≤ left ∧ c ≤ cp ∧ left < 19 ∧ cp < 19 := by
  obtain ⟨h1, h2, h3, h4, h5, h6⟩ := h
  rw [List.sum_cons] at h3
  have c1 := h2 c (by simp)
  have c2 := h4 c (by simp)
  exact ⟨⟨h1.2, fun x hx => h2 x (List.mem_cons_of_mem _ hx), by omega, h1.1, by omega, by omega⟩, c1, by omega, c2, h5, h6⟩
theorem nbG_lt : ∀ (l : List Nat) (left cp : Nat), gok l left cp → nbG l left cp < cap left cp
  | [], left, cp, h => by
    have : left = 0 := by have := h.2.2.1; simpa using this.symm
    subst this
    rw [cap_pos cp h.2.2.2.2.2]
    show 0 < 1
    omega
  | c :: t, left, cp, h => by
    obtain ⟨g1, g2, g3, g4, g5, g6⟩ := h.tl
    have ih := nbG_lt t (left - c) c g1
    have s1 := cap_step g5 g2 g3
    have m1 := cap_mono left g5 cp g6 c (by omega)
    show (cap left cp - cap left c) + nbG t (left - c) c < _
    omega
theorem nbG_inj : ∀ (l l' : List Nat) (left cp : Nat), gok l left cp → gok l' left cp → nbG l left cp = nbG l' left cp → l = l'
  | [], [], _, _, _, _, _ => rfl
  | [], c :: t, left, cp, h, h', _ => by
    have e := h.2.2.1
    obtain ⟨g1, g2, g3, g4, g5, g6⟩ := h'.tl
    simp at e
    omega
  | c :: t, [], left, cp, h', h, _ => by
    have e := h.2.2.1
    obtain ⟨g1, g2, g3, g4, g5, g6⟩ := h'.tl
    simp at e
    omega
  | c :: t, c' :: t', left, cp, h, h', e => by
    obtain ⟨g1, g2, g3, g4, g5, g6⟩ := h.tl
    obtain ⟨g1', g2', g3', g4', g5', g6'⟩ := h'.tl
    have l1 := nbG_lt t (left - c) c g1
    have l1' := nbG_lt t' (left - c') c' g1'
    have s1 := cap_step g5 g2 g3
    have s1' := cap_step g5 g2' g3'
    have m1 := cap_mono left g5 cp g6 c (by omega)
    have m1' := cap_mono left g5 cp g6 c' (by omega)
    have e2 : (cap left cp - cap left c) + nbG t (left - c) c = (cap left cp - cap left c') + nbG t' (left - c') c' := e
    have ec : c = c' := by
      rcases Nat.lt_trichotomy c c' with z | z | z
      · have := cap_mono left g5 (c' - 1) (by omega) c (by omega)
        omega
      · exact z
      · have := cap_mono left g5 (c - 1) (by omega) c' (by omega)
        omega
    subst ec
    rw [nbG_inj t t' (left - c) c g1 g1' (by omega)]
theorem okl.g {l : List Nat} (h : okl l) : gok l l.sum l.sum := by
  have := h.2.2
  refine ⟨h.1, h.2.1, rfl, fun x hx => ?_, by omega, by omega⟩
  obtain ⟨i, hi, e⟩ := List.getElem_of_mem hx
  have := gd_sum l i
  rw [List.getD_eq_getElem?_getD, List.getElem?_eq_getElem hi] at this
  rw [← e]
  exact this
theorem srtB_ok : ∀ (l : List Nat), srtB l = true → srt l
  | [], _ => trivial
  | [x], _ => ⟨fun y h => by simp at h, trivial⟩
  | x :: y :: t, h => by
    unfold srtB at h
    simp only [Bool.and_eq_true, decide_eq_true_eq] at h
    have ih := srtB_ok (y :: t) h.2
    refine ⟨fun z hz => ?_, ih⟩
    rcases List.mem_cons.mp hz with e | e
    · omega
    · have := ih.1 z e
      omega
theorem wr_ok {n k : Nat} (hn : n < 19) (hk : k < cap n n) : okl (wr n k) := by
  have h := chkW_all n hn
  unfold chkW at h
  have := List.all_eq_true.mp h k (List.mem_range.mpr hk)
  simp only [Bool.and_eq_true, beq_iff_eq, okB, List.all_eq_true, decide_eq_true_eq] at this
  exact ⟨srtB_ok _ this.1.1.1.1, this.1.1.1.2, this.1.1.2⟩
theorem nb_lt {l : List Nat} (h : okl l) : nb l < cap l.sum l.sum := by
  rw [nb_eq]
  exact nbG_lt _ _ _ h.g
theorem wr_nb {l : List Nat} (h : okl l) : wr l.sum (nb l) = l := by
  have hs := h.2.2
  have h1 := nb_lt h
  obtain ⟨e1, e2⟩ := chk_W (n := l.sum) (by omega) h1
  have o := wr_ok (n := l.sum) (by omega) h1
  have g := o.g
  rw [nb_eq (wr l.sum (nb l))] at e2
  rw [e1] at g e2
  exact nbG_inj _ _ _ _ g h.g (by rw [e2, nb_eq])
theorem nb_NN {l : List Nat} (h : okl l) {ru : Nat} (hr : ru < 4) : 19 * ru + l.sum < 76 ∧ nb l < NN (19 * ru + l.sum) := by
  have hs := h.2.2
  refine ⟨by omega, ?_⟩
  unfold NN
  rw [show (19 * ru + l.sum) % 19 = l.sum by omega]
  exact nb_lt h
/-- what steps of a parting come to, by numbers -/
theorem stp_nx {l : List Nat} (h : okl l) {ru : Nat} (hr : ru < 4) : nb (stp ru l) = nx (19 * ru + l.sum) (nb l) ∧ (stp ru l).sum = l.sum := by
  obtain ⟨h1, h2⟩ := nb_NN h hr
  have hs := h.2.2
  obtain ⟨e1, e2, e3⟩ := chk_S h1 h2
  rw [show (19 * ru + l.sum) / 19 = ru by omega, show (19 * ru + l.sum) % 19 = l.sum by omega, wr_nb h] at e1 e2
  exact ⟨e1, e2⟩
