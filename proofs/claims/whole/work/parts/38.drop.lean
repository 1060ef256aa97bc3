theorem del_len : ∀ (l : List Nat) (i : Nat), i < l.length → (del l i).length + 1 = l.length
  | [], i, h => by simp at h
  | x :: t, 0, h => by simp [del]
  | x :: t, i + 1, h => by
    have := del_len t i (by simpa using h)
    unfold del at this ⊢
    rw [List.take_succ_cons, List.drop_succ_cons, List.cons_append, List.length_cons, List.length_cons]
    omega
theorem del_sum : ∀ (l : List Nat) (i : Nat), i < l.length → (del l i).sum + l.getD i 0 = l.sum
  | [], i, h => by simp at h
  | x :: t, 0, h => by simp [del]; omega
  | x :: t, i + 1, h => by
    have := del_sum t i (by simpa using h)
    unfold del at this ⊢
    rw [List.take_succ_cons, List.drop_succ_cons, List.cons_append, List.sum_cons, List.sum_cons, List.getD_cons_succ]
    omega
theorem del_get : ∀ (l : List Nat) (i j : Nat), i < l.length → (del l i).getD j 0 = if j < i then l.getD j 0 else l.getD (j + 1) 0
  | [], i, j, h => by simp at h
  | x :: t, 0, j, h => by
    unfold del
    rw [if_neg (by omega), List.getD_cons_succ]
    simp
  | x :: t, i + 1, 0, h => by
    unfold del
    rw [List.take_succ_cons, List.cons_append, if_pos (by omega), List.getD_cons_zero, List.getD_cons_zero]
  | x :: t, i + 1, j + 1, h => by
    have := del_get t i j (by simpa using h)
    unfold del at this ⊢
    rw [List.take_succ_cons, List.drop_succ_cons, List.cons_append, List.getD_cons_succ, this, List.getD_cons_succ, List.getD_cons_succ]
    simp only [Nat.add_lt_add_iff_right]
theorem del_mem {l : List Nat} {i x : Nat} (h : x ∈ del l i) : x ∈ l := by
  unfold del at h
  rcases List.mem_append.mp h with e | e
  · exact List.mem_of_mem_take e
  · exact List.mem_of_mem_drop e
theorem del_srt : ∀ (l : List Nat) (i : Nat), srt l → srt (del l i)
  | [], i, h => by simp [del, srt]
  | x :: t, 0, h => by unfold del; simpa using h.2
  | x :: t, i + 1, h => by
    have ih := del_srt t i h.2
    have e : del (x :: t) (i + 1) = x :: del t i := by unfold del; rw [List.take_succ_cons, List.drop_succ_cons, List.cons_append]
    rw [e]
    exact ⟨fun y hy => h.1 y (del_mem hy), ih⟩
theorem okl_del {l : List Nat} {i : Nat} (h : okl l) (hi : i < l.length) : okl (del l i) :=
  ⟨del_srt l i h.1, fun x hx => h.2.1 x (del_mem hx), by have := del_sum l i hi; have := h.2.2; omega⟩
section DROP
variable {g : mG} {h : mH} {Q : Option Value → mH → Prop} {a b : Nat} {l : List Nat}
theorem l_X3_drop {i : Nat} (hab : a ≠ b) (hl : okl l) (hi : i < l.length) (k : ∀ h', hx [a, b] h h' → Rw h' a b (del l i) → Q (some (.int (nI (l.getD i 0)))) h') :
    ∀ (d j : Nat) (h1 : mH) (G : Nat → Nat), j + d = l.length → i + 1 ≤ j → hx [a, b] h h1 → hc h1 a = some (rowc b l.length l.sum) → hc h1 b = some (aI 18 G) → (∀ q, q < i → G q = l.getD q 0) → (∀ q, i ≤ q → q + 1 < j → G q = l.getD (q + 1) 0) → (∀ q, j ≤ q → q < l.length → G q = l.getD q 0) →
    Ok g MX3_drop (m_J g MX3_drop Q) 21 [some (.ref a), some (.int (nI i)), some (.int (nI (l.getD i 0))), some (.int (nI j))] [] h1 0 0 := by
  have hlen := hl.len
  have ds := del_sum l i hi
  have dl := del_len l i hi
  intro d
  induction d with
  | zero =>
    intro j h1 G hj hij x1 ea eb g1 g2 g3
    refine ok_iload_n dX3_drop_21 rfl ?_
    refine ok_aload_n dX3_drop_22 rfl rfl ?_
    refine ok_get dX3_drop_23 fl_X3_15 (by assumption) (by rfl) ?_
    refine okN_icmp_ge (tgt := 49) dX3_drop_26 (by decide) (by omega) (by omega) (fun c1 => ?_) (fun c1 => ?_)
    · refine ok_aload_n dX3_drop_49 rfl rfl ?_
      refine ok_dup dX3_drop_50 rfl ?_
      refine ok_get dX3_drop_51 fl_X3_15 (by assumption) (by rfl) ?_
      refine ok_iconst (v := nI 1) dX3_drop_54 (by decide) ?_
      first | refine okN_isub dX3_drop_55 (by omega) ?_ | refine ok_isub dX3_drop_55 ?_
      refine okR_put dX3_drop_56 fl_X3_15 (by assumption) (Nat.le_of_ble_eq_true rfl) (fun _ => ⟨rfl, rfl⟩) set_3_1 (fun h2 hx2 he2 => ?_)
      have eb2 := hx2.at (by simp [Ne.symm hab]) eb
      refine ok_aload_n dX3_drop_59 rfl rfl ?_
      refine ok_dup dX3_drop_60 rfl ?_
      refine ok_get dX3_drop_61 fl_X3_19 (by assumption) (by rfl) ?_
      refine ok_iload_n dX3_drop_64 rfl ?_
      first | refine okN_isub dX3_drop_65 (by omega) ?_ | refine ok_isub dX3_drop_65 ?_
      refine okR_put dX3_drop_66 fl_X3_19 (by assumption) (Nat.le_of_ble_eq_true rfl) (fun _ => ⟨rfl, rfl⟩) set_3_2 (fun h3 hx3 he3 => ?_)
      refine ok_iload_n dX3_drop_69 rfl ?_
      refine ok_iret dX3_drop_70 rfl rfl ⟨Nat.le_of_ble_eq_true rfl, Nat.le_of_ble_eq_true rfl⟩ ?_
      have eb3 := hx3.at (by simp [Ne.symm hab]) eb2
      refine k h3 ((x1.tr hx2 (C := [a, b]) (by simp) (by simp)).tr hx3 (by simp) (by simp)) ⟨?_, G, eb3, fun q hq => ?_⟩
      · rw [show (del l i).length = l.length - 1 by omega, show (del l i).sum = l.sum - l.getD i 0 by omega]
        exact he3
      · rw [del_get l i q hi]
        by_cases c : q < i
        · rw [if_pos c]; exact g1 q c
        · rw [if_neg c]; exact g2 q (by omega) (by omega)
    · exact absurd c1 (by omega)
  | succ d ih =>
    intro j h1 G hj hij x1 ea eb g1 g2 g3
    refine ok_iload_n dX3_drop_21 rfl ?_
    refine ok_aload_n dX3_drop_22 rfl rfl ?_
    refine ok_get dX3_drop_23 fl_X3_15 (by assumption) (by rfl) ?_
    refine okN_icmp_ge (tgt := 49) dX3_drop_26 (by decide) (by omega) (by omega) (fun c1 => ?_) (fun c1 => ?_)
    · exact absurd c1 (by omega)
    · refine ok_aload_n dX3_drop_29 rfl rfl ?_
      refine ok_get dX3_drop_30 fl_X3_9 (by assumption) (by rfl) ?_
      refine ok_iload_n dX3_drop_33 rfl ?_
      refine ok_iconst (v := nI 1) dX3_drop_34 (by decide) ?_
      first | refine okN_isub dX3_drop_35 (by omega) ?_ | refine ok_isub dX3_drop_35 ?_
      refine ok_aload_n dX3_drop_36 rfl rfl ?_
      refine ok_get dX3_drop_37 fl_X3_9 (by assumption) (by rfl) ?_
      refine ok_iload_n dX3_drop_40 rfl ?_
      first | refine okN_iald dX3_drop_41 (by assumption) (by omega) (by decide) ?_ | refine okF_iald dX3_drop_41 (by assumption) (by omega) (by omega) ?_ | refine okN_kald dX3_drop_41 (by assumption) (by omega) (by decide) ?_
      first | refine okN_iast dX3_drop_42 (by assumption) (by omega) (by decide) (fun h2 hx2 he2 => ?_) | refine okC_iast dX3_drop_42 (by assumption) (by omega) (by omega) (by omega) (fun h2 hx2 he2 => ?_) | refine okF_iast dX3_drop_42 (by assumption) (by omega) (by omega) (fun h2 hx2 he2 => ?_) | refine okN_kast dX3_drop_42 (by assumption) (by omega) (by decide) (fun h2 hx2 he2 => ?_)
      refine okN_inc dX3_drop_43 rfl (st_4_3 rfl) (Nat.le_of_ble_eq_true rfl) ?_
      refine ok_goto (tgt := 21) dX3_drop_46 (by decide) ?_
      refine ih (j + 1) h2 _ (by omega) (by omega) (x1.tr hx2 (by simp) (by simp)) (hx2.at (by simp [hab]) ea) he2 (fun q hq => ?_) (fun q h3 h4 => ?_) (fun q h3 h4 => ?_)
      · rw [up_ne (by omega)]; exact g1 q hq
      · by_cases c : q = j - 1
        · rw [c, up_eq, g3 j (by omega) (by omega), show j - 1 + 1 = j by omega]
        · rw [up_ne c]; exact g2 q h3 (by omega)
      · rw [up_ne (by omega)]; exact g3 q (by omega) h4
theorem c_X3_drop {i : Nat} (r : Rw h a b l) (hab : a ≠ b) (hl : okl l) (hi : i < l.length) (k : ∀ h', hx [a, b] h h' → Rw h' a b (del l i) → Q (some (.int (nI (l.getD i 0)))) h') :
    Ok g MX3_drop (m_J g MX3_drop Q) 0 [some (.ref a), some (.int (nI i)), none, none] [] h 0 0 := by
  obtain ⟨ea, F, eb, hF⟩ := r
  have hlen := hl.len
  refine ok_aload_n dX3_drop_0 rfl rfl ?_
  refine ok_iload_n dX3_drop_1 rfl ?_
  refine call_X3_has dX3_drop_2 lk_X3_34 ⟨Nat.le_of_ble_eq_true rfl, Nat.le_of_ble_eq_true rfl, Nat.le_of_ble_eq_true rfl⟩ (by assumption) (Nat.le_of_ble_eq_true rfl) ?_
  refine c_X3_has ea hlen (fun x y1 y2 y3 => ?_) (fun y => absurd y (by rw [pl_nI (by omega) hi]; simp))
  refine okN_if_ne (tgt := 10) dX3_drop_5 (by decide) (by omega) (fun c1 => ?_) (fun c1 => ?_)
  · refine ok_aload_n dX3_drop_10 rfl rfl ?_
    refine ok_get dX3_drop_11 fl_X3_9 (by assumption) (by rfl) ?_
    refine ok_iload_n dX3_drop_14 rfl ?_
    first | refine okN_iald dX3_drop_15 (by assumption) (by omega) (by decide) ?_ | refine okF_iald dX3_drop_15 (by assumption) (by omega) (by omega) ?_ | refine okN_kald dX3_drop_15 (by assumption) (by omega) (by decide) ?_
    rw [hF i hi]
    refine ok_istore_n dX3_drop_16 (st_4_2 rfl) (Nat.le_of_ble_eq_true rfl) ?_
    refine ok_iload_n dX3_drop_17 rfl ?_
    refine ok_iconst (v := nI 1) dX3_drop_18 (by decide) ?_
    first | refine okN_iadd dX3_drop_19 ?_ | refine ok_iadd dX3_drop_19 ?_
    refine ok_istore_n dX3_drop_20 (st_4_3 rfl) (Nat.le_of_ble_eq_true rfl) ?_
    exact l_X3_drop hab hl hi k (l.length - (i + 1)) (i + 1) h F (by omega) (by omega) hx.rf ea eb (fun q hq => hF q (by omega)) (fun q h1 h2 => absurd h1 (by omega)) (fun q h1 h2 => hF q h2)
  · exact absurd c1 (by decide)
end DROP
/-! ===== steps keep a parting a parting ===== -/
theorem okl_stp {ru : Nat} {l : List Nat} (h : okl l) : okl (stp ru l) := by
  have hs := h.2.2
  have kge : ∀ q, okl (ge q l) := fun q => by
    obtain ⟨e1, e2⟩ := geN_inv q h l.length (Nat.le_refl _)
    rw [tsum_len] at e2
    exact okl_put0 e1 (by omega)
  unfold stp
  by_cases c1 : ru = 1
  · rw [if_pos c1]
    unfold gg
    by_cases c : l.length = 0
    · rw [if_pos c]; exact okl_nil
    · rw [if_neg c]
      obtain ⟨w1, w2, w3⟩ := gg_ok h (by omega)
      exact okl_ins (w1 _ (Nat.le_refl _)) (by omega) (by omega)
  · rw [if_neg c1]
    by_cases c2 : ru = 2
    · rw [if_pos c2]; exact kge 2
    · rw [if_neg c2]
      by_cases c3 : ru = 3
      · rw [if_pos c3]
        unfold gl
        by_cases c : l.length = 0
        · have e0 : l = [] := List.eq_nil_of_length_eq_zero c
          subst e0
          exact okl_nil
        · have t1 := tsum_succ l (l.length - 1) (by omega)
          have tl := tsum_len l
          rw [show l.length - 1 + 1 = l.length by omega] at t1
          obtain ⟨e1, e2⟩ := glN_inv h (l.getD (l.length - 1) 0) (l.length - 1) (by omega) (by omega)
          exact okl_put0 e1 (by omega)
      · rw [if_neg c3]; exact kge 1
theorem stpN_it {ru : Nat} (hr : ru < 4) {l : List Nat} (h : okl l) : ∀ m, okl (stpN ru l m) ∧ (stpN ru l m).sum = l.sum ∧ nb (stpN ru l m) = it (19 * ru + l.sum) m (nb l)
  | 0 => ⟨h, rfl, rfl⟩
  | m + 1 => by
    obtain ⟨e1, e2, e3⟩ := stpN_it hr h m
    obtain ⟨f1, f2⟩ := stp_nx e1 hr
    refine ⟨okl_stp e1, by show (stp ru (stpN ru l m)).sum = _; rw [f2, e2], ?_⟩
    show nb (stp ru (stpN ru l m)) = nx (19 * ru + l.sum) (it (19 * ru + l.sum) m (nb l))
    rw [f1, e2, e3]
theorem wr_it {ru : Nat} (hr : ru < 4) {l : List Nat} (h : okl l) (m : Nat) : wr l.sum (it (19 * ru + l.sum) m (nb l)) = stpN ru l m := by
  obtain ⟨e1, e2, e3⟩ := stpN_it hr h m
  rw [← e3, ← e2]
  exact wr_nb e1
