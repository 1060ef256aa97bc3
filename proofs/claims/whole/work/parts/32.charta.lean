/-! ===== what a chart tells ===== -/
def nthN (P : Nat → Bool) : Nat → Nat → Nat → Int32
  | 0, _, _ => -9
  | d + 1, j, m => if P j then (if m = 0 then nI j else nthN P d (j + 1) (m - 1)) else nthN P d (j + 1) m
/-- the i-th place below N of which P holds, or -9 -/
def nthI (P : Nat → Bool) (N : Nat) (i : Int32) : Int32 := if i < 0 then -9 else nthN P N 0 i.toNatClampNeg
def fsI (s goal : Nat) : Nat → Nat → Nat → Int32
  | 0, _, _ => -9
  | d + 1, t, k => if k = goal then nI t else fsI s goal d (t + 1) (nx s k)
def kdI (s k : Nat) : Nat := if c_co s k = 0 then 3 else if nx s k = k then 2 else if c_ta s k = 0 then 1 else 0
section CHARTA
variable {g : mG} {h : mH} {Q : Option Value → mH → Prop} {a s : Nat}
theorem c_X0_tailOf {i : Nat} (r : Chd h a s) (hs : s < 76) (hi : i < NN s) (k : Q (some (.int (nI (c_ta s i)))) h) : Ok g MX0_tailOf (m_J g MX0_tailOf Q) 0 [some (.ref a), some (.int (nI i))] [] h 0 0 := by
  have hN := NN_lt hs
  obtain ⟨ea, r1, r2, r3, r4, r5⟩ := r
  refine ok_aload_n dX0_tailOf_0 rfl rfl ?_
  refine ok_iload_n dX0_tailOf_1 rfl ?_
  refine call_X0_has dX0_tailOf_2 lk_X0_37 ⟨Nat.le_of_ble_eq_true rfl, Nat.le_of_ble_eq_true rfl, Nat.le_of_ble_eq_true rfl⟩ (by assumption) (Nat.le_of_ble_eq_true rfl) ?_
  refine c_X0_hasN ea hN hi ?_
  refine okN_if_eq (tgt := 17) dX0_tailOf_5 (by decide) (by omega) (fun c1 => ?_) (fun c1 => ?_)
  · exact absurd c1 (by decide)
  · refine ok_aload_n dX0_tailOf_8 rfl rfl ?_
    refine ok_get dX0_tailOf_9 fl_X0_28 (by assumption) (by rfl) ?_
    refine ok_iload_n dX0_tailOf_12 rfl ?_
    first | refine okN_iald dX0_tailOf_13 (by assumption) (by omega) (by decide) ?_ | refine okF_iald dX0_tailOf_13 (by assumption) (by omega) (by omega) ?_ | refine okN_kald dX0_tailOf_13 (by assumption) (by omega) (by decide) ?_
    refine ok_goto (tgt := 18) dX0_tailOf_14 (by decide) ?_
    refine ok_iret dX0_tailOf_18 rfl rfl ⟨Nat.le_of_ble_eq_true rfl, Nat.le_of_ble_eq_true rfl⟩ ?_
    exact k
theorem c_X0_beatOf {i : Nat} (r : Chd h a s) (hs : s < 76) (hi : i < NN s) (k : Q (some (.int (nI (c_be s i)))) h) : Ok g MX0_beatOf (m_J g MX0_beatOf Q) 0 [some (.ref a), some (.int (nI i))] [] h 0 0 := by
  have hN := NN_lt hs
  obtain ⟨ea, r1, r2, r3, r4, r5⟩ := r
  refine ok_aload_n dX0_beatOf_0 rfl rfl ?_
  refine ok_iload_n dX0_beatOf_1 rfl ?_
  refine call_X0_has dX0_beatOf_2 lk_X0_37 ⟨Nat.le_of_ble_eq_true rfl, Nat.le_of_ble_eq_true rfl, Nat.le_of_ble_eq_true rfl⟩ (by assumption) (Nat.le_of_ble_eq_true rfl) ?_
  refine c_X0_hasN ea hN hi ?_
  refine okN_if_eq (tgt := 17) dX0_beatOf_5 (by decide) (by omega) (fun c1 => ?_) (fun c1 => ?_)
  · exact absurd c1 (by decide)
  · refine ok_aload_n dX0_beatOf_8 rfl rfl ?_
    refine ok_get dX0_beatOf_9 fl_X0_31 (by assumption) (by rfl) ?_
    refine ok_iload_n dX0_beatOf_12 rfl ?_
    first | refine okN_iald dX0_beatOf_13 (by assumption) (by omega) (by decide) ?_ | refine okF_iald dX0_beatOf_13 (by assumption) (by omega) (by omega) ?_ | refine okN_kald dX0_beatOf_13 (by assumption) (by omega) (by decide) ?_
    refine ok_goto (tgt := 18) dX0_beatOf_14 (by decide) ?_
    refine ok_iret dX0_beatOf_18 rfl rfl ⟨Nat.le_of_ble_eq_true rfl, Nat.le_of_ble_eq_true rfl⟩ ?_
    exact k
theorem c_X0_leaderOf {i : Nat} (r : Chd h a s) (hs : s < 76) (hi : i < NN s) (k : Q (some (.int (nI (c_le s i)))) h) : Ok g MX0_leaderOf (m_J g MX0_leaderOf Q) 0 [some (.ref a), some (.int (nI i))] [] h 0 0 := by
  have hN := NN_lt hs
  obtain ⟨ea, r1, r2, r3, r4, r5⟩ := r
  refine ok_aload_n dX0_leaderOf_0 rfl rfl ?_
  refine ok_iload_n dX0_leaderOf_1 rfl ?_
  refine call_X0_has dX0_leaderOf_2 lk_X0_37 ⟨Nat.le_of_ble_eq_true rfl, Nat.le_of_ble_eq_true rfl, Nat.le_of_ble_eq_true rfl⟩ (by assumption) (Nat.le_of_ble_eq_true rfl) ?_
  refine c_X0_hasN ea hN hi ?_
  refine okN_if_eq (tgt := 17) dX0_leaderOf_5 (by decide) (by omega) (fun c1 => ?_) (fun c1 => ?_)
  · exact absurd c1 (by decide)
  · refine ok_aload_n dX0_leaderOf_8 rfl rfl ?_
    refine ok_get dX0_leaderOf_9 fl_X0_34 (by assumption) (by rfl) ?_
    refine ok_iload_n dX0_leaderOf_12 rfl ?_
    first | refine okN_iald dX0_leaderOf_13 (by assumption) (by omega) (by decide) ?_ | refine okF_iald dX0_leaderOf_13 (by assumption) (by omega) (by omega) ?_ | refine okN_kald dX0_leaderOf_13 (by assumption) (by omega) (by decide) ?_
    refine ok_goto (tgt := 18) dX0_leaderOf_14 (by decide) ?_
    refine ok_iret dX0_leaderOf_18 rfl rfl ⟨Nat.le_of_ble_eq_true rfl, Nat.le_of_ble_eq_true rfl⟩ ?_
    exact k
theorem c_X0_comersTo {i : Nat} (r : Chd h a s) (hs : s < 76) (hi : i < NN s) (k : Q (some (.int (nI (c_co s i)))) h) : Ok g MX0_comersTo (m_J g MX0_comersTo Q) 0 [some (.ref a), some (.int (nI i))] [] h 0 0 := by
  have hN := NN_lt hs
  obtain ⟨ea, r1, r2, r3, r4, r5⟩ := r
  refine ok_aload_n dX0_comersTo_0 rfl rfl ?_
  refine ok_iload_n dX0_comersTo_1 rfl ?_
  refine call_X0_has dX0_comersTo_2 lk_X0_37 ⟨Nat.le_of_ble_eq_true rfl, Nat.le_of_ble_eq_true rfl, Nat.le_of_ble_eq_true rfl⟩ (by assumption) (Nat.le_of_ble_eq_true rfl) ?_
  refine c_X0_hasN ea hN hi ?_
  refine okN_if_eq (tgt := 17) dX0_comersTo_5 (by decide) (by omega) (fun c1 => ?_) (fun c1 => ?_)
  · exact absurd c1 (by decide)
  · refine ok_aload_n dX0_comersTo_8 rfl rfl ?_
    refine ok_get dX0_comersTo_9 fl_X0_25 (by assumption) (by rfl) ?_
    refine ok_iload_n dX0_comersTo_12 rfl ?_
    first | refine okN_iald dX0_comersTo_13 (by assumption) (by omega) (by decide) ?_ | refine okF_iald dX0_comersTo_13 (by assumption) (by omega) (by omega) ?_ | refine okN_kald dX0_comersTo_13 (by assumption) (by omega) (by decide) ?_
    refine ok_goto (tgt := 18) dX0_comersTo_14 (by decide) ?_
    refine ok_iret dX0_comersTo_18 rfl rfl ⟨Nat.le_of_ble_eq_true rfl, Nat.le_of_ble_eq_true rfl⟩ ?_
    exact k
theorem c_X0_kindOf {i : Nat} (r : Chd h a s) (hs : s < 76) (hi : i < NN s) (k : Q (some (.int (nI (kdI s i)))) h) : Ok g MX0_kindOf (m_J g MX0_kindOf Q) 0 [some (.ref a), some (.int (nI i))] [] h 0 0 := by
  have hN := NN_lt hs
  obtain ⟨q1, q2, q3, q4, q5, q6, q7, q8, q9, q10, q11⟩ := ch_k hs hi
  obtain ⟨ea, r1, r2, r3, r4, r5⟩ := r
  unfold kdI at k
  refine ok_aload_n dX0_kindOf_0 rfl rfl ?_
  refine ok_iload_n dX0_kindOf_1 rfl ?_
  refine call_X0_has dX0_kindOf_2 lk_X0_37 ⟨Nat.le_of_ble_eq_true rfl, Nat.le_of_ble_eq_true rfl, Nat.le_of_ble_eq_true rfl⟩ (by assumption) (Nat.le_of_ble_eq_true rfl) ?_
  refine c_X0_hasN ea hN hi ?_
  refine okN_if_ne (tgt := 10) dX0_kindOf_5 (by decide) (by omega) (fun c1 => ?_) (fun c1 => ?_)
  · refine ok_aload_n dX0_kindOf_10 rfl rfl ?_
    refine ok_get dX0_kindOf_11 fl_X0_25 (by assumption) (by rfl) ?_
    refine ok_iload_n dX0_kindOf_14 rfl ?_
    first | refine okN_iald dX0_kindOf_15 (by assumption) (by omega) (by decide) ?_ | refine okF_iald dX0_kindOf_15 (by assumption) (by omega) (by omega) ?_ | refine okN_kald dX0_kindOf_15 (by assumption) (by omega) (by decide) ?_
    refine okN_if_ne (tgt := 21) dX0_kindOf_16 (by decide) (by omega) (fun c2 => ?_) (fun c2 => ?_)
    · rw [if_neg (by omega)] at k
      refine ok_aload_n dX0_kindOf_21 rfl rfl ?_
      refine ok_get dX0_kindOf_22 fl_X0_21 (by assumption) (by rfl) ?_
      refine ok_iload_n dX0_kindOf_25 rfl ?_
      first | refine okN_iald dX0_kindOf_26 (by assumption) (by omega) (by decide) ?_ | refine okF_iald dX0_kindOf_26 (by assumption) (by omega) (by omega) ?_ | refine okN_kald dX0_kindOf_26 (by assumption) (by omega) (by decide) ?_
      refine ok_iload_n dX0_kindOf_27 rfl ?_
      refine okN_icmp_ne (tgt := 33) dX0_kindOf_28 (by decide) (by omega) (by omega) (fun c3 => ?_) (fun c3 => ?_)
      · rw [if_neg c3] at k
        refine ok_aload_n dX0_kindOf_33 rfl rfl ?_
        refine ok_get dX0_kindOf_34 fl_X0_28 (by assumption) (by rfl) ?_
        refine ok_iload_n dX0_kindOf_37 rfl ?_
        first | refine okN_iald dX0_kindOf_38 (by assumption) (by omega) (by decide) ?_ | refine okF_iald dX0_kindOf_38 (by assumption) (by omega) (by omega) ?_ | refine okN_kald dX0_kindOf_38 (by assumption) (by omega) (by decide) ?_
        refine okN_if_ne (tgt := 46) dX0_kindOf_39 (by decide) (by omega) (fun c4 => ?_) (fun c4 => ?_)
        · rw [if_neg (by omega)] at k
          refine ok_iconst (v := nI 0) dX0_kindOf_46 (by decide) ?_
          refine ok_iret dX0_kindOf_47 rfl rfl ⟨Nat.le_of_ble_eq_true rfl, Nat.le_of_ble_eq_true rfl⟩ ?_
          exact k
        · rw [if_pos c4] at k
          refine ok_iconst (v := nI 1) dX0_kindOf_42 (by decide) ?_
          refine ok_goto (tgt := 47) dX0_kindOf_43 (by decide) ?_
          refine ok_iret dX0_kindOf_47 rfl rfl ⟨Nat.le_of_ble_eq_true rfl, Nat.le_of_ble_eq_true rfl⟩ ?_
          exact k
      · rw [if_pos c3] at k
        refine ok_iconst (v := nI 2) dX0_kindOf_31 (by decide) ?_
        refine ok_iret dX0_kindOf_32 rfl rfl ⟨Nat.le_of_ble_eq_true rfl, Nat.le_of_ble_eq_true rfl⟩ ?_
        exact k
    · rw [if_pos c2] at k
      refine ok_iconst (v := nI 3) dX0_kindOf_19 (by decide) ?_
      refine ok_iret dX0_kindOf_20 rfl rfl ⟨Nat.le_of_ble_eq_true rfl, Nat.le_of_ble_eq_true rfl⟩ ?_
      exact k
  · exact absurd c1 (by decide)
theorem nI_neg {a : Nat} (ha : a < 2 ^ 31) {i : Int32} (hi : i < 0) : ¬ nI a = i := fun e => absurd hi (by rw [← e]; exact nI_pos ha)
theorem l_X0_comerTo {t : Nat} (r : Chd h a s) (hs : s < 76) (ht : t < NN s) {i : Int32} :
    ∀ (d j seen : Nat), j + d = NN s → seen ≤ j → (i < 0 → Q (some (.int (-9))) h) → (∀ m, seen ≤ m → m < 2 ^ 31 → i = nI m → Q (some (.int (nthN (fun j => nx s j == t) d j (m - seen)))) h) → (¬ i < 0 → ∃ m, seen ≤ m ∧ m < 2 ^ 31 ∧ i = nI m) →
    Ok g MX0_comerTo (m_J g MX0_comerTo Q) 5 [some (.ref a), some (.int (nI t)), some (.int i), some (.int (nI seen)), some (.int (nI j))] [] h 0 0 := by
  have hN := NN_lt hs
  obtain ⟨ea, r1, r2, r3, r4, r5⟩ := r
  intro d
  induction d with
  | zero =>
    intro j seen hj hse k0 k1 hm
    refine ok_iload dX0_comerTo_5 rfl ?_
    refine ok_aload_n dX0_comerTo_7 rfl rfl ?_
    refine ok_get dX0_comerTo_8 fl_X0_15 (by assumption) (by rfl) ?_
    refine okN_icmp_ge (tgt := 42) dX0_comerTo_11 (by decide) (by omega) (by omega) (fun c1 => ?_) (fun c1 => ?_)
    · refine ok_bipush (v := -9) dX0_comerTo_42 (by decide) ?_
      refine ok_iret dX0_comerTo_44 rfl rfl ⟨Nat.le_of_ble_eq_true rfl, Nat.le_of_ble_eq_true rfl⟩ ?_
      by_cases c : i < 0
      · exact k0 c
      · obtain ⟨m, m1, m2, m3⟩ := hm c
        exact k1 m m1 m2 m3
    · exact absurd c1 (by omega)
  | succ d ih =>
    intro j seen hj hse k0 k1 hm
    have q11 := (ch_k hs (k := j) (by omega)).2.2.2.2.2.2.2.2.2.2
    unfold nthN at k1
    refine ok_iload dX0_comerTo_5 rfl ?_
    refine ok_aload_n dX0_comerTo_7 rfl rfl ?_
    refine ok_get dX0_comerTo_8 fl_X0_15 (by assumption) (by rfl) ?_
    refine okN_icmp_ge (tgt := 42) dX0_comerTo_11 (by decide) (by omega) (by omega) (fun c1 => ?_) (fun c1 => ?_)
    · exact absurd c1 (by omega)
    · refine ok_aload_n dX0_comerTo_14 rfl rfl ?_
      refine ok_get dX0_comerTo_15 fl_X0_21 (by assumption) (by rfl) ?_
      refine ok_iload dX0_comerTo_18 rfl ?_
      first | refine okN_iald dX0_comerTo_20 (by assumption) (by omega) (by decide) ?_ | refine okF_iald dX0_comerTo_20 (by assumption) (by omega) (by omega) ?_ | refine okN_kald dX0_comerTo_20 (by assumption) (by omega) (by decide) ?_
      refine ok_iload_n dX0_comerTo_21 rfl ?_
      refine okN_icmp_ne (tgt := 36) dX0_comerTo_22 (by decide) (by omega) (by omega) (fun c2 => ?_) (fun c2 => ?_)
      · have e : (nx s j == t) = false := by simpa using c2
        refine okN_inc dX0_comerTo_36 rfl (st_5_4 rfl) (Nat.le_of_ble_eq_true rfl) ?_
        refine ok_goto (tgt := 5) dX0_comerTo_39 (by decide) ?_
        refine ih (j + 1) seen (by omega) (by omega) k0 (fun m m1 m2 m3 => ?_) hm
        have := k1 m m1 m2 m3
        simp only [e] at this
        exact this
      · have e : (nx s j == t) = true := by simpa using c2
        refine ok_iload_n dX0_comerTo_25 rfl ?_
        refine ok_iload_n dX0_comerTo_26 rfl ?_
        refine ok_icmp_ne (tgt := 33) dX0_comerTo_27 (by decide) (fun c3 => ?_) (fun c3 => ?_)
        · refine okN_inc dX0_comerTo_33 rfl (st_5_3 rfl) (Nat.le_of_ble_eq_true rfl) ?_
          refine okN_inc dX0_comerTo_36 rfl (st_5_4 rfl) (Nat.le_of_ble_eq_true rfl) ?_
          refine ok_goto (tgt := 5) dX0_comerTo_39 (by decide) ?_
          refine ih (j + 1) (seen + 1) (by omega) (by omega) k0 (fun m m1 m2 m3 => ?_) (fun c => ?_)
          · have := k1 m (by omega) m2 m3
            simp only [e, if_true] at this
            rw [if_neg (by omega)] at this
            exact this
          · obtain ⟨m, m1, m2, m3⟩ := hm c
            refine ⟨m, ?_, m2, m3⟩
            rcases Nat.lt_or_ge seen m with z | z
            · exact z
            · exact absurd (by rw [m3]; congr 1; omega) c3
        · refine ok_iload dX0_comerTo_30 rfl ?_
          refine ok_iret dX0_comerTo_32 rfl rfl ⟨Nat.le_of_ble_eq_true rfl, Nat.le_of_ble_eq_true rfl⟩ ?_
          have := k1 seen (Nat.le_refl _) (by omega) c3.symm
          simp only [e, if_true] at this
          rw [if_pos (by omega)] at this
          exact this
theorem c_X0_comerTo {t : Nat} {i : Int32} (r : Chd h a s) (hs : s < 76) (ht : t < NN s) (k : Q (some (.int (nthI (fun j => nx s j == t) (NN s) i))) h) : Ok g MX0_comerTo (m_J g MX0_comerTo Q) 0 [some (.ref a), some (.int (nI t)), some (.int i), none, none] [] h 0 0 := by
  unfold nthI at k
  refine ok_iconst (v := nI 0) dX0_comerTo_0 (by decide) ?_
  refine ok_istore_n dX0_comerTo_1 (st_5_3 rfl) (Nat.le_of_ble_eq_true rfl) ?_
  refine ok_iconst (v := nI 0) dX0_comerTo_2 (by decide) ?_
  refine ok_istore dX0_comerTo_3 (st_5_4 rfl) (Nat.le_of_ble_eq_true rfl) ?_
  refine l_X0_comerTo r hs ht (NN s) 0 0 (by omega) (by omega) (fun c => ?_) (fun m m1 m2 m3 => ?_) (fun c => ?_)
  · rw [if_pos c] at k
    exact k
  · rw [m3, if_neg (nI_pos m2), nI_clamp m2] at k
    exact k
  · obtain ⟨m, m1, m2⟩ := nI_of c
    exact ⟨m, by omega, m1, m2⟩
theorem l_X0_leaderOfRing (r : Chd h a s) (hs : s < 76) {i : Int32} :
    ∀ (d j seen : Nat), j + d = NN s → seen ≤ j → (i < 0 → Q (some (.int (-9))) h) → (∀ m, seen ≤ m → m < 2 ^ 31 → i = nI m → Q (some (.int (nthN (fun j => c_le s j == j) d j (m - seen)))) h) → (¬ i < 0 → ∃ m, seen ≤ m ∧ m < 2 ^ 31 ∧ i = nI m) →
    Ok g MX0_leaderOfRing (m_J g MX0_leaderOfRing Q) 4 [some (.ref a), some (.int i), some (.int (nI seen)), some (.int (nI j))] [] h 0 0 := by
  have hN := NN_lt hs
  obtain ⟨ea, r1, r2, r3, r4, r5⟩ := r
  intro d
  induction d with
  | zero =>
    intro j seen hj hse k0 k1 hm
    refine ok_iload_n dX0_leaderOfRing_4 rfl ?_
    refine ok_aload_n dX0_leaderOfRing_5 rfl rfl ?_
    refine ok_get dX0_leaderOfRing_6 fl_X0_15 (by assumption) (by rfl) ?_
    refine okN_icmp_ge (tgt := 38) dX0_leaderOfRing_9 (by decide) (by omega) (by omega) (fun c1 => ?_) (fun c1 => ?_)
    · refine ok_bipush (v := -9) dX0_leaderOfRing_38 (by decide) ?_
      refine ok_iret dX0_leaderOfRing_40 rfl rfl ⟨Nat.le_of_ble_eq_true rfl, Nat.le_of_ble_eq_true rfl⟩ ?_
      by_cases c : i < 0
      · exact k0 c
      · obtain ⟨m, m1, m2, m3⟩ := hm c
        exact k1 m m1 m2 m3
    · exact absurd c1 (by omega)
  | succ d ih =>
    intro j seen hj hse k0 k1 hm
    have q11 := (ch_k hs (k := j) (by omega)).2.2.2.2.2.2.2.2.2.1
    unfold nthN at k1
    refine ok_iload_n dX0_leaderOfRing_4 rfl ?_
    refine ok_aload_n dX0_leaderOfRing_5 rfl rfl ?_
    refine ok_get dX0_leaderOfRing_6 fl_X0_15 (by assumption) (by rfl) ?_
    refine okN_icmp_ge (tgt := 38) dX0_leaderOfRing_9 (by decide) (by omega) (by omega) (fun c1 => ?_) (fun c1 => ?_)
    · exact absurd c1 (by omega)
    · refine ok_aload_n dX0_leaderOfRing_12 rfl rfl ?_
      refine ok_get dX0_leaderOfRing_13 fl_X0_34 (by assumption) (by rfl) ?_
      refine ok_iload_n dX0_leaderOfRing_16 rfl ?_
      first | refine okN_iald dX0_leaderOfRing_17 (by assumption) (by omega) (by decide) ?_ | refine okF_iald dX0_leaderOfRing_17 (by assumption) (by omega) (by omega) ?_ | refine okN_kald dX0_leaderOfRing_17 (by assumption) (by omega) (by decide) ?_
      refine ok_iload_n dX0_leaderOfRing_18 rfl ?_
      refine okN_icmp_ne (tgt := 32) dX0_leaderOfRing_19 (by decide) (by omega) (by omega) (fun c2 => ?_) (fun c2 => ?_)
      · have e : (c_le s j == j) = false := by simpa using c2
        refine okN_inc dX0_leaderOfRing_32 rfl (st_4_3 rfl) (Nat.le_of_ble_eq_true rfl) ?_
        refine ok_goto (tgt := 4) dX0_leaderOfRing_35 (by decide) ?_
        refine ih (j + 1) seen (by omega) (by omega) k0 (fun m m1 m2 m3 => ?_) hm
        have := k1 m m1 m2 m3
        simp only [e] at this
        exact this
      · have e : (c_le s j == j) = true := by simpa using c2
        refine ok_iload_n dX0_leaderOfRing_22 rfl ?_
        refine ok_iload_n dX0_leaderOfRing_23 rfl ?_
        refine ok_icmp_ne (tgt := 29) dX0_leaderOfRing_24 (by decide) (fun c3 => ?_) (fun c3 => ?_)
        · refine okN_inc dX0_leaderOfRing_29 rfl (st_4_2 rfl) (Nat.le_of_ble_eq_true rfl) ?_
          refine okN_inc dX0_leaderOfRing_32 rfl (st_4_3 rfl) (Nat.le_of_ble_eq_true rfl) ?_
          refine ok_goto (tgt := 4) dX0_leaderOfRing_35 (by decide) ?_
          refine ih (j + 1) (seen + 1) (by omega) (by omega) k0 (fun m m1 m2 m3 => ?_) (fun c => ?_)
          · have := k1 m (by omega) m2 m3
            simp only [e, if_true] at this
            rw [if_neg (by omega)] at this
            exact this
          · obtain ⟨m, m1, m2, m3⟩ := hm c
            refine ⟨m, ?_, m2, m3⟩
            rcases Nat.lt_or_ge seen m with z | z
            · exact z
            · exact absurd (by rw [m3]; congr 1; omega) c3
        · refine ok_iload_n dX0_leaderOfRing_27 rfl ?_
          refine ok_iret dX0_leaderOfRing_28 rfl rfl ⟨Nat.le_of_ble_eq_true rfl, Nat.le_of_ble_eq_true rfl⟩ ?_
          have := k1 seen (Nat.le_refl _) (by omega) c3.symm
          simp only [e, if_true] at this
          rw [if_pos (by omega)] at this
          exact this
theorem c_X0_leaderOfRing {i : Int32} (r : Chd h a s) (hs : s < 76) (k : Q (some (.int (nthI (fun j => c_le s j == j) (NN s) i))) h) : Ok g MX0_leaderOfRing (m_J g MX0_leaderOfRing Q) 0 [some (.ref a), some (.int i), none, none] [] h 0 0 := by
  unfold nthI at k
  refine ok_iconst (v := nI 0) dX0_leaderOfRing_0 (by decide) ?_
  refine ok_istore_n dX0_leaderOfRing_1 (st_4_2 rfl) (Nat.le_of_ble_eq_true rfl) ?_
  refine ok_iconst (v := nI 0) dX0_leaderOfRing_2 (by decide) ?_
  refine ok_istore_n dX0_leaderOfRing_3 (st_4_3 rfl) (Nat.le_of_ble_eq_true rfl) ?_
  refine l_X0_leaderOfRing r hs (NN s) 0 0 (by omega) (by omega) (fun c => ?_) (fun m m1 m2 m3 => ?_) (fun c => ?_)
  · rw [if_pos c] at k
    exact k
  · rw [m3, if_neg (nI_pos m2), nI_clamp m2] at k
    exact k
  · obtain ⟨m, m1, m2⟩ := nI_of c
    exact ⟨m, by omega, m1, m2⟩
theorem it_lt {s k : Nat} (hs : s < 76) (hk : k < NN s) : ∀ j, it s j k < NN s
  | 0 => hk
  | j + 1 => (ch_k hs (it_lt hs hk j)).2.2.2.2.2.2.2.2.2.2
theorem l_X0_after {k0 m : Nat} (r : Chd h a s) (hs : s < 76) (hk : k0 < NN s) (hm : m < 2 ^ 31) (k : Q (some (.int (nI (it s m k0)))) h) :
    ∀ (d j : Nat), j + d = m → Ok g MX0_after (m_J g MX0_after Q) 5 [some (.ref a), some (.int (nI k0)), some (.int (nI m)), some (.int (nI (it s j k0))), some (.int (nI j))] [] h 0 0 := by
  have hN := NN_lt hs
  obtain ⟨ea, r1, r2, r3, r4, r5⟩ := r
  intro d
  induction d with
  | zero =>
    intro j hj
    refine ok_iload dX0_after_5 rfl ?_
    refine ok_iload_n dX0_after_7 rfl ?_
    refine okN_icmp_ge (tgt := 32) dX0_after_8 (by decide) (by omega) (by omega) (fun c1 => ?_) (fun c1 => ?_)
    · refine ok_iload_n dX0_after_32 rfl ?_
      refine ok_iret dX0_after_33 rfl rfl ⟨Nat.le_of_ble_eq_true rfl, Nat.le_of_ble_eq_true rfl⟩ ?_
      rw [show j = m by omega]
      exact k
    · exact absurd c1 (by omega)
  | succ d ih =>
    intro j hj
    have il := it_lt hs hk j
    refine ok_iload dX0_after_5 rfl ?_
    refine ok_iload_n dX0_after_7 rfl ?_
    refine okN_icmp_ge (tgt := 32) dX0_after_8 (by decide) (by omega) (by omega) (fun c1 => ?_) (fun c1 => ?_)
    · exact absurd c1 (by omega)
    · refine ok_aload_n dX0_after_11 rfl rfl ?_
      refine ok_iload_n dX0_after_12 rfl ?_
      refine call_X0_has dX0_after_13 lk_X0_37 ⟨Nat.le_of_ble_eq_true rfl, Nat.le_of_ble_eq_true rfl, Nat.le_of_ble_eq_true rfl⟩ (by assumption) (Nat.le_of_ble_eq_true rfl) ?_
      refine c_X0_hasN ea hN il ?_
      refine okN_if_eq (tgt := 32) dX0_after_16 (by decide) (by omega) (fun c2 => ?_) (fun c2 => ?_)
      · exact absurd c2 (by decide)
      · refine ok_aload_n dX0_after_19 rfl rfl ?_
        refine ok_get dX0_after_20 fl_X0_21 (by assumption) (by rfl) ?_
        refine ok_iload_n dX0_after_23 rfl ?_
        first | refine okN_iald dX0_after_24 (by assumption) (by omega) (by decide) ?_ | refine okF_iald dX0_after_24 (by assumption) (by omega) (by omega) ?_ | refine okN_kald dX0_after_24 (by assumption) (by omega) (by decide) ?_
        refine ok_istore_n dX0_after_25 (st_5_3 rfl) (Nat.le_of_ble_eq_true rfl) ?_
        refine okN_inc dX0_after_26 rfl (st_5_4 rfl) (Nat.le_of_ble_eq_true rfl) ?_
        refine ok_goto (tgt := 5) dX0_after_29 (by decide) ?_
        exact ih (j + 1) (by omega)
theorem c_X0_after {k0 m : Nat} (r : Chd h a s) (hs : s < 76) (hk : k0 < NN s) (hm : m < 2 ^ 31) (k : Q (some (.int (nI (it s m k0)))) h) : Ok g MX0_after (m_J g MX0_after Q) 0 [some (.ref a), some (.int (nI k0)), some (.int (nI m)), none, none] [] h 0 0 := by
  refine ok_iload_n dX0_after_0 rfl ?_
  refine ok_istore_n dX0_after_1 (st_5_3 rfl) (Nat.le_of_ble_eq_true rfl) ?_
  refine ok_iconst (v := nI 0) dX0_after_2 (by decide) ?_
  refine ok_istore dX0_after_3 (st_5_4 rfl) (Nat.le_of_ble_eq_true rfl) ?_
  exact l_X0_after r hs hk hm k m 0 (by omega)
theorem l_X0_stepsBetween {k0 t : Nat} (r : Chd h a s) (hs : s < 76) (hk : k0 < NN s) (ht : t < NN s) :
    ∀ (d j c : Nat), j + d = NN s → c < NN s → Q (some (.int (fsI s t d j c))) h → Ok g MX0_stepsBetween (m_J g MX0_stepsBetween Q) 5 [some (.ref a), some (.int (nI k0)), some (.int (nI t)), some (.int (nI c)), some (.int (nI j))] [] h 0 0 := by
  have hN := NN_lt hs
  obtain ⟨ea, r1, r2, r3, r4, r5⟩ := r
  intro d
  induction d with
  | zero =>
    intro j c hj hc k
    refine ok_iload dX0_stepsBetween_5 rfl ?_
    refine ok_aload_n dX0_stepsBetween_7 rfl rfl ?_
    refine ok_get dX0_stepsBetween_8 fl_X0_15 (by assumption) (by rfl) ?_
    refine okN_icmp_ge (tgt := 43) dX0_stepsBetween_11 (by decide) (by omega) (by omega) (fun c1 => ?_) (fun c1 => ?_)
    · refine ok_bipush (v := -9) dX0_stepsBetween_43 (by decide) ?_
      refine ok_iret dX0_stepsBetween_45 rfl rfl ⟨Nat.le_of_ble_eq_true rfl, Nat.le_of_ble_eq_true rfl⟩ ?_
      exact k
    · exact absurd c1 (by omega)
  | succ d ih =>
    intro j c hj hc k
    unfold fsI at k
    refine ok_iload dX0_stepsBetween_5 rfl ?_
    refine ok_aload_n dX0_stepsBetween_7 rfl rfl ?_
    refine ok_get dX0_stepsBetween_8 fl_X0_15 (by assumption) (by rfl) ?_
    refine okN_icmp_ge (tgt := 43) dX0_stepsBetween_11 (by decide) (by omega) (by omega) (fun c1 => ?_) (fun c1 => ?_)
    · exact absurd c1 (by omega)
    · refine ok_aload_n dX0_stepsBetween_14 rfl rfl ?_
      refine ok_iload_n dX0_stepsBetween_15 rfl ?_
      refine call_X0_has dX0_stepsBetween_16 lk_X0_37 ⟨Nat.le_of_ble_eq_true rfl, Nat.le_of_ble_eq_true rfl, Nat.le_of_ble_eq_true rfl⟩ (by assumption) (Nat.le_of_ble_eq_true rfl) ?_
      refine c_X0_hasN ea hN hc ?_
      refine okN_if_eq (tgt := 43) dX0_stepsBetween_19 (by decide) (by omega) (fun c2 => ?_) (fun c2 => ?_)
      · exact absurd c2 (by decide)
      · refine ok_iload_n dX0_stepsBetween_22 rfl ?_
        refine ok_iload_n dX0_stepsBetween_23 rfl ?_
        refine okN_icmp_ne (tgt := 30) dX0_stepsBetween_24 (by decide) (by omega) (by omega) (fun c3 => ?_) (fun c3 => ?_)
        · rw [if_neg c3] at k
          refine ok_aload_n dX0_stepsBetween_30 rfl rfl ?_
          refine ok_get dX0_stepsBetween_31 fl_X0_21 (by assumption) (by rfl) ?_
          refine ok_iload_n dX0_stepsBetween_34 rfl ?_
          first | refine okN_iald dX0_stepsBetween_35 (by assumption) (by omega) (by decide) ?_ | refine okF_iald dX0_stepsBetween_35 (by assumption) (by omega) (by omega) ?_ | refine okN_kald dX0_stepsBetween_35 (by assumption) (by omega) (by decide) ?_
          refine ok_istore_n dX0_stepsBetween_36 (st_5_3 rfl) (Nat.le_of_ble_eq_true rfl) ?_
          refine okN_inc dX0_stepsBetween_37 rfl (st_5_4 rfl) (Nat.le_of_ble_eq_true rfl) ?_
          refine ok_goto (tgt := 5) dX0_stepsBetween_40 (by decide) ?_
          exact ih (j + 1) _ (by omega) (ch_k hs hc).2.2.2.2.2.2.2.2.2.2 k
        · rw [if_pos c3] at k
          refine ok_iload dX0_stepsBetween_27 rfl ?_
          refine ok_iret dX0_stepsBetween_29 rfl rfl ⟨Nat.le_of_ble_eq_true rfl, Nat.le_of_ble_eq_true rfl⟩ ?_
          exact k
theorem c_X0_stepsBetween {k0 t : Nat} (r : Chd h a s) (hs : s < 76) (hk : k0 < NN s) (ht : t < NN s) (k : Q (some (.int (fsI s t (NN s) 0 k0))) h) : Ok g MX0_stepsBetween (m_J g MX0_stepsBetween Q) 0 [some (.ref a), some (.int (nI k0)), some (.int (nI t)), none, none] [] h 0 0 := by
  refine ok_iload_n dX0_stepsBetween_0 rfl ?_
  refine ok_istore_n dX0_stepsBetween_1 (st_5_3 rfl) (Nat.le_of_ble_eq_true rfl) ?_
  refine ok_iconst (v := nI 0) dX0_stepsBetween_2 (by decide) ?_
  refine ok_istore dX0_stepsBetween_3 (st_5_4 rfl) (Nat.le_of_ble_eq_true rfl) ?_
  exact l_X0_stepsBetween r hs hk ht (NN s) 0 k0 (by omega) hk k
theorem c_X0_init {N : Nat} (hN : N < 386) (ea : hc h a = some (.inr (0, [.int (nI 0), .null, .null, .null, .null, .null, .int (nI 0), .int (nI 0), .int (nI 0), .int (nI 0), .int (nI 0)])))
    (k : ∀ h', h'.1 = h.1 + 5 → hw [a] h h' → hc h' a = some (chc N h.1 (h.1 + 1) (h.1 + 2) (h.1 + 3) (h.1 + 4) 0 0 0 0 0) → (∀ i, i < 5 → hc h' (h.1 + i) = some (aI N (fun _ => 0))) → Q none h') : Ok g MX0_init (m_J g MX0_init Q) 0 [some (.ref a), some (.int (nI N))] [] h 0 0 := by
  have la := (hc_lt ea).1
  refine ok_aload_n dX0_init_0 rfl rfl ?_
  refine ok_obj dX0_init_1 ob_X0_3 (Nat.le_of_ble_eq_true rfl) (Nat.le_of_ble_eq_true rfl) ?_
  refine ok_aload_n dX0_init_4 rfl rfl ?_
  refine ok_iload_n dX0_init_5 rfl ?_
  refine ok_iconst (v := nI 0) dX0_init_6 (by decide) ?_
  refine okN_max dX0_init_7 mmax_X0_9 (Nat.le_of_ble_eq_true rfl) ⟨Nat.le_of_ble_eq_true rfl, Nat.le_of_ble_eq_true rfl⟩ (Nat.le_of_ble_eq_true rfl) (by omega) (by omega) ?_
  rw [show (if N < 0 then 0 else N) = N by simp]
  refine okR_putF dX0_init_10 rfl fl_X0_15 (by assumption) (Nat.le_of_ble_eq_true rfl) (fun _ => ⟨rfl, rfl⟩) set_11_0 (fun h1 hx1 he1 => ?_)
  refine ok_aload_n dX0_init_13 rfl rfl ?_
  refine ok_aload_n dX0_init_14 rfl rfl ?_
  refine ok_get dX0_init_15 fl_X0_15 (by assumption) (by rfl) ?_
  have z1 := hx1.1
  refine okR_newI dX0_init_18 (by omega) ⟨Nat.le_of_ble_eq_true rfl, by show 0 + N ≤ 1925; omega⟩ (fun h2 n2 e2 => ?_)
  have ea2 := n2.at he1
  have z2 := n2.1
  rw [z1] at e2 ⊢
  refine okR_putF dX0_init_20 rfl fl_X0_21 (by assumption) (Nat.le_of_ble_eq_true rfl) (fun _ => ⟨rfl, rfl⟩) set_11_1 (fun h3 hx3 he3 => ?_)
  refine ok_aload_n dX0_init_23 rfl rfl ?_
  refine ok_aload_n dX0_init_24 rfl rfl ?_
  refine ok_get dX0_init_25 fl_X0_15 (by assumption) (by rfl) ?_
  have f3 := hx3.at (by simp <;> omega) e2
  have z3 := hx3.1
  refine okR_newI dX0_init_28 (by omega) ⟨Nat.le_of_ble_eq_true rfl, by show 0 + N + N ≤ 1925; omega⟩ (fun h4 n4 e4 => ?_)
  have ea4 := n4.at he3
  have f4 := n4.at f3
  have z4 := n4.1
  rw [show h3.1 = h.1 + 1 by omega] at e4 ⊢
  refine okR_putF dX0_init_30 rfl fl_X0_25 (by assumption) (Nat.le_of_ble_eq_true rfl) (fun _ => ⟨rfl, rfl⟩) set_11_2 (fun h5 hx5 he5 => ?_)
  refine ok_aload_n dX0_init_33 rfl rfl ?_
  refine ok_aload_n dX0_init_34 rfl rfl ?_
  refine ok_get dX0_init_35 fl_X0_15 (by assumption) (by rfl) ?_
  have f5 := hx5.at (by simp <;> omega) f4
  have g5 := hx5.at (by simp <;> omega) e4
  have z5 := hx5.1
  refine okR_newI dX0_init_38 (by omega) ⟨Nat.le_of_ble_eq_true rfl, by show 0 + N + N + N ≤ 1925; omega⟩ (fun h6 n6 e6 => ?_)
  have ea6 := n6.at he5
  have f6 := n6.at f5
  have g6 := n6.at g5
  have z6 := n6.1
  rw [show h5.1 = h.1 + 2 by omega] at e6 ⊢
  refine okR_putF dX0_init_40 rfl fl_X0_28 (by assumption) (Nat.le_of_ble_eq_true rfl) (fun _ => ⟨rfl, rfl⟩) set_11_3 (fun h7 hx7 he7 => ?_)
  refine ok_aload_n dX0_init_43 rfl rfl ?_
  refine ok_aload_n dX0_init_44 rfl rfl ?_
  refine ok_get dX0_init_45 fl_X0_15 (by assumption) (by rfl) ?_
  have f7 := hx7.at (by simp <;> omega) f6
  have g7 := hx7.at (by simp <;> omega) g6
  have i7 := hx7.at (by simp <;> omega) e6
  have z7 := hx7.1
  refine okR_newI dX0_init_48 (by omega) ⟨Nat.le_of_ble_eq_true rfl, by show 0 + N + N + N + N ≤ 1925; omega⟩ (fun h8 n8 e8 => ?_)
  have ea8 := n8.at he7
  have f8 := n8.at f7
  have g8 := n8.at g7
  have i8 := n8.at i7
  have z8 := n8.1
  rw [show h7.1 = h.1 + 3 by omega] at e8 ⊢
  refine okR_putF dX0_init_50 rfl fl_X0_31 (by assumption) (Nat.le_of_ble_eq_true rfl) (fun _ => ⟨rfl, rfl⟩) set_11_4 (fun h9 hx9 he9 => ?_)
  refine ok_aload_n dX0_init_53 rfl rfl ?_
  refine ok_aload_n dX0_init_54 rfl rfl ?_
  refine ok_get dX0_init_55 fl_X0_15 (by assumption) (by rfl) ?_
  have f9 := hx9.at (by simp <;> omega) f8
  have g9 := hx9.at (by simp <;> omega) g8
  have i9 := hx9.at (by simp <;> omega) i8
  have j9 := hx9.at (by simp <;> omega) e8
  have z9 := hx9.1
  refine okR_newI dX0_init_58 (by omega) ⟨Nat.le_of_ble_eq_true rfl, by show 0 + N + N + N + N + N ≤ 1925; omega⟩ (fun h10 n10 e10 => ?_)
  have ea10 := n10.at he9
  have f10 := n10.at f9
  have g10 := n10.at g9
  have i10 := n10.at i9
  have j10 := n10.at j9
  have z10 := n10.1
  rw [show h9.1 = h.1 + 4 by omega] at e10 ⊢
  refine okR_putF dX0_init_60 rfl fl_X0_34 (by assumption) (Nat.le_of_ble_eq_true rfl) (fun _ => ⟨rfl, rfl⟩) set_11_5 (fun h11 hx11 he11 => ?_)
  refine ok_vret dX0_init_63 rfl ⟨Nat.le_of_ble_eq_true rfl, by show 0 + N + N + N + N + N ≤ 1925; omega⟩ ?_
  have f11 := hx11.at (by simp <;> omega) f10
  have g11 := hx11.at (by simp <;> omega) g10
  have i11 := hx11.at (by simp <;> omega) i10
  have j11 := hx11.at (by simp <;> omega) j10
  have l11 := hx11.at (by simp <;> omega) e10
  refine k h11 (by rw [hx11.1]; omega) ?_ he11 ?_
  · exact (((((((((hx1.w.tr (n2.w (A := [])) (by simp)).tr hx3.w (by simp)).tr (n4.w (A := [])) (by simp)).tr hx5.w (by simp)).tr (n6.w (A := [])) (by simp)).tr hx7.w (by simp)).tr (n8.w (A := [])) (by simp)).tr hx9.w (by simp)).tr (n10.w (A := [])) (by simp)).tr hx11.w (by simp)
  · intro i hi
    rcases (show i = 0 ∨ i = 1 ∨ i = 2 ∨ i = 3 ∨ i = 4 by omega) with rfl | rfl | rfl | rfl | rfl
    · exact f11
    · exact g11
    · exact i11
    · exact j11
    · exact l11
end CHARTA
