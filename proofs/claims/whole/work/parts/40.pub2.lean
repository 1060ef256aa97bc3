/-! ===== more of the class's calls ===== -/
theorem pl_not {n : Nat} {i : Int32} (e : pl n i = none) : i.toInt < 0 ∨ (n : Int) ≤ i.toInt := by
  unfold pl at e
  split at e
  · cases e
  · omega
theorem pl_cases (n : Nat) (i : Int32) (hn : n < 2 ^ 31) : pl n i = none ∨ ∃ j, pl n i = some j ∧ j < n ∧ i = nI j := by
  cases e : pl n i with
  | none => exact Or.inl rfl
  | some j => exact Or.inr ⟨j, rfl, pl_some hn e⟩
theorem pl_of {n : Nat} {i : Int32} {lo : Nat} (hlo : lo < 2 ^ 31) (c : i < nI lo) : i.toInt < (lo : Int) := by
  rw [Int32.lt_iff_toInt_lt, nI_toInt hlo] at c
  exact c
theorem tI_lt {i : Int32} {n : Nat} (hn : n < 2 ^ 31) : i < nI n ↔ i.toInt < (n : Int) := by rw [Int32.lt_iff_toInt_lt, nI_toInt hn]
theorem tI_le {i : Int32} {n : Nat} (hn : n < 2 ^ 31) : i ≤ nI n ↔ i.toInt ≤ (n : Int) := by rw [Int32.le_iff_toInt_le, nI_toInt hn]
theorem tI_gt {i : Int32} {n : Nat} (hn : n < 2 ^ 31) : nI n < i ↔ (n : Int) < i.toInt := by rw [Int32.lt_iff_toInt_lt, nI_toInt hn]
theorem tI_ge {i : Int32} {n : Nat} (hn : n < 2 ^ 31) : nI n ≤ i ↔ (n : Int) ≤ i.toInt := by rw [Int32.le_iff_toInt_le, nI_toInt hn]
theorem tI_0 {i : Int32} : i < 0 ↔ i.toInt < 0 := by rw [Int32.lt_iff_toInt_lt]; rfl
/-- THE PARTING p is there, and holds l -/
theorem IX.setTP {h h' : mH} {S : ST} (I : IX h S) {p : Nat} {l : List Nat} (hp : p < 12) (x : hx [2, 22 + 2 * p, 23 + 2 * p] h h') (ol : okl l) (r : Rw h' (22 + 2 * p) (23 + 2 * p) l) (r2 : I2 h' (up S.1 p true)) : IX h' (s_TP S p l) := by
  obtain ⟨e0, hr, i1, i2, i3, i4, i5, i6, i7, i7', i8⟩ := I
  have w := x.w
  refine ⟨w.at (by simp <;> omega) e0, hr, i1.w w (by simp <;> omega), r2, i3.w w (by simp <;> omega), i4.w w (by simp <;> omega) (by simp <;> omega), i5.w w (fun q l1 l2 => by simp <;> omega), i6.w w (by simp <;> omega) (by simp <;> omega), i7.w w (by simp <;> omega) (by simp <;> omega), i7'.w w (by simp <;> omega) (by simp <;> omega), fun p' hp' => ?_⟩
  by_cases c : p' = p
  · subst c
    refine ⟨l, ol, r, fun _ => ?_⟩
    show l = up S.2.1 p' l p'
    rw [up_eq]
  · obtain ⟨l', o', e', f'⟩ := i8 p' hp'
    refine ⟨l', o', e'.w w (by simp <;> omega) (by simp <;> omega), fun t => ?_⟩
    show l' = up S.2.1 p l p'
    rw [up_ne c]
    refine f' ?_
    have t' : up S.1 p true p' = true := t
    rwa [up_ne c] at t'
theorem IX.setT {h h' : mH} {S : ST} (I : IX h S) {p : Nat} (hp : p < 12) (x : hx [2] h h') (r2 : I2 h' (up S.1 p false)) : IX h' (s_T S p false) := by
  obtain ⟨e0, hr, i1, i2, i3, i4, i5, i6, i7, i7', i8⟩ := I
  have w := x.w
  refine ⟨w.at (by decide) e0, hr, i1.w w (by decide), r2, i3.w w (by decide), i4.w w (by decide) (by decide), i5.w w (fun q l1 l2 => by simp <;> omega), i6.w w (by decide) (by decide), i7.w w (by decide) (by decide), i7'.w w (by decide) (by decide), fun p' hp' => ?_⟩
  obtain ⟨l', o', e', f'⟩ := i8 p' hp'
  refine ⟨l', o', e'.w w (by simp <;> omega) (by simp <;> omega), fun t => ?_⟩
  have t' : up S.1 p false p' = true := t
  by_cases c : p' = p
  · rw [c, up_eq] at t'; cases t'
  · rw [up_ne c] at t'; exact f' t'
theorem I2_up {h : mH} {T : Nat → Bool} {F : Nat → Int32} {p : Nat} (b : Bool) (f : ∀ q, q < 12 → F q = (if T q then nI 1 else nI 0)) (e : hc h 2 = some (aZ 12 (up F p (if b then nI 1 else nI 0)))) : I2 h (up T p b) := by
  refine ⟨_, e, fun q hq => ?_⟩
  by_cases c : q = p
  · rw [c, up_eq, up_eq]
  · rw [up_ne c, up_ne c, f q hq]
section PUB2
variable {g : mG} {h : mH} {Q : Option Value → mH → Prop} {S : ST}
theorem p_X4_parting {p : Int32} (I : IX h S) (k : ∀ h', fX h h' → IX h' (sp_parting S p).2 → Q (some (.int (sp_parting S p).1)) h') : Ok g MX4_parting (m_J g MX4_parting Q) 0 [some (.ref 0), some (.int p), none] [] h 0 0 := by
  obtain ⟨e0, -, ⟨F1, e1, f1⟩, ⟨F2, e2, f2⟩, -, -, -, -, -, -, i8⟩ := id I
  unfold sp_parting at k
  refine ok_iload_n dX4_parting_0 rfl ?_
  refine call_X4_isPlace dX4_parting_1 lk_X4_51 ⟨Nat.le_of_ble_eq_true rfl, Nat.le_of_ble_eq_true rfl, Nat.le_of_ble_eq_true rfl⟩ (Nat.le_of_ble_eq_true rfl) ?_
  refine c_X4_isPlace (fun j q1 q2 q3 => ?_) (fun q => ?_)
  · rw [q1] at k
    dsimp only at k
    subst q3
    obtain ⟨l0, o0, ⟨er, F, eF, hF⟩, -⟩ := i8 j q2
    have rest : ∀ (v : Nat), (if S.1 j = true then nI 1 else nI 0) = nI v → Ok g MX4_parting (m_J g MX4_parting Q) 24 [some (.ref 0), some (.int (nI j)), some (.int (nI v))] [] h 0 0 := by
      intro v ev
      refine ok_aload_n dX4_parting_24 rfl rfl ?_
      refine ok_get dX4_parting_25 fl_X4_15 (by assumption) (by rfl) ?_
      refine ok_iload_n dX4_parting_28 rfl ?_
      refine ok_iconst (v := nI 1) dX4_parting_29 (by decide) ?_
      refine okN_zast dX4_parting_30 (by rfl) (by assumption) (by omega) (by decide) (fun h1 hx1 he1 => ?_)
      have e01 := hx1.at (by decide) e0
      have e11 := hx1.at (by decide) e1
      have er1 := hx1.at (by simp <;> omega) er
      have eF1 := hx1.at (by simp <;> omega) eF
      refine ok_aload_n dX4_parting_31 rfl rfl ?_
      refine ok_get dX4_parting_32 fl_X4_11 (by assumption) (by rfl) ?_
      refine ok_iload_n dX4_parting_35 rfl ?_
      first | refine okN_aald (t := 3) dX4_parting_36 rfl (by assumption) (by omega) (by decide) ?_ | refine okN_aald (t := 4) dX4_parting_36 rfl (by assumption) (by omega) (by decide) ?_
      rw [f1 j q2]
      dsimp only [m_rv]
      refine call_X3_clear dX4_parting_37 lk_X4_55 ⟨Nat.le_of_ble_eq_true rfl, Nat.le_of_ble_eq_true rfl, Nat.le_of_ble_eq_true rfl⟩ (by assumption) (Nat.le_of_ble_eq_true rfl) ?_
      refine c_X3_clear er1 (fun h2 x2 e2' => ?_)
      refine ok_iload_n dX4_parting_40 rfl ?_
      refine ok_iret dX4_parting_41 rfl rfl ⟨Nat.le_of_ble_eq_true rfl, Nat.le_of_ble_eq_true rfl⟩ ?_
      rw [ev] at k
      refine k h2 ((hx1.tr x2 (C := [2, 22 + 2 * j]) (by simp) (by simp)).w.f (by simp <;> omega)) (I.setTP q2 (hx1.tr x2 (by simp) (by simp)) okl_nil ⟨e2', F, x2.at (by simp) eF1, fun i hi => by simp at hi⟩ (I2_up true f2 (x2.at (by simp <;> omega) he1)))
    refine okN_if_ne (tgt := 9) dX4_parting_4 (by decide) (by omega) (fun c1 => ?_) (fun c1 => ?_)
    · refine ok_aload_n dX4_parting_9 rfl rfl ?_
      refine ok_get dX4_parting_10 fl_X4_15 (by assumption) (by rfl) ?_
      refine ok_iload_n dX4_parting_13 rfl ?_
      refine okN_zald dX4_parting_14 (by assumption) (by omega) (by decide) ?_
      rw [f2 j q2]
      cases ht : S.1 j with
      | true =>
        rw [if_pos rfl]
        refine okN_if_eq (tgt := 22) dX4_parting_15 (by decide) (by omega) (fun c2 => ?_) (fun c2 => ?_)
        · exact absurd c2 (by decide)
        · refine ok_iconst (v := nI 1) dX4_parting_18 (by decide) ?_
          refine ok_goto (tgt := 23) dX4_parting_19 (by decide) ?_
          refine ok_istore_n dX4_parting_23 (st_3_2 rfl) (Nat.le_of_ble_eq_true rfl) ?_
          exact rest 1 (by rw [ht]; rfl)
      | false =>
        rw [if_neg (by decide)]
        refine okN_if_eq (tgt := 22) dX4_parting_15 (by decide) (by omega) (fun c2 => ?_) (fun c2 => ?_)
        · refine ok_iconst (v := nI 0) dX4_parting_22 (by decide) ?_
          refine ok_istore_n dX4_parting_23 (st_3_2 rfl) (Nat.le_of_ble_eq_true rfl) ?_
          exact rest 0 (by rw [ht]; rfl)
        · exact absurd c2 (by decide)
    · exact absurd c1 (by decide)
  · rw [q] at k
    refine okN_if_ne (tgt := 9) dX4_parting_4 (by decide) (by omega) (fun c1 => ?_) (fun c1 => ?_)
    · exact absurd c1 (by decide)
    · refine ok_iconst (v := -1) dX4_parting_7 (by decide) ?_
      refine ok_iret dX4_parting_8 rfl rfl ⟨Nat.le_of_ble_eq_true rfl, Nat.le_of_ble_eq_true rfl⟩ ?_
      exact k h fX.rf I
theorem p_X4_tear {p : Int32} (I : IX h S) (k : ∀ h', fX h h' → IX h' (sp_tear S p).2 → Q (some (.int (sp_tear S p).1)) h') : Ok g MX4_tear (m_J g MX4_tear Q) 0 [some (.ref 0), some (.int p)] [] h 0 0 := by
  obtain ⟨e0, -, -, ⟨F2, e2, f2⟩, -⟩ := id I
  unfold sp_tear ofp at k
  refine ok_iload_n dX4_tear_0 rfl ?_
  refine call_X4_isPlace dX4_tear_1 lk_X4_51 ⟨Nat.le_of_ble_eq_true rfl, Nat.le_of_ble_eq_true rfl, Nat.le_of_ble_eq_true rfl⟩ (Nat.le_of_ble_eq_true rfl) ?_
  refine c_X4_isPlace (fun j q1 q2 q3 => ?_) (fun q => ?_)
  · rw [q1] at k
    dsimp only at k
    subst q3
    refine okN_if_ne (tgt := 9) dX4_tear_4 (by decide) (by omega) (fun c1 => ?_) (fun c1 => ?_)
    · refine ok_aload_n dX4_tear_9 rfl rfl ?_
      refine ok_get dX4_tear_10 fl_X4_15 (by assumption) (by rfl) ?_
      refine ok_iload_n dX4_tear_13 rfl ?_
      refine okN_zald dX4_tear_14 (by assumption) (by omega) (by decide) ?_
      rw [f2 j q2]
      cases ht : S.1 j with
      | true =>
        rw [if_pos ht] at k
        rw [if_pos rfl]
        refine okN_if_ne (tgt := 24) dX4_tear_15 (by decide) (by omega) (fun c2 => ?_) (fun c2 => ?_)
        · refine ok_aload_n dX4_tear_24 rfl rfl ?_
          refine ok_get dX4_tear_25 fl_X4_15 (by assumption) (by rfl) ?_
          refine ok_iload_n dX4_tear_28 rfl ?_
          refine ok_iconst (v := nI 0) dX4_tear_29 (by decide) ?_
          refine okN_zast dX4_tear_30 (by rfl) (by assumption) (by omega) (by decide) (fun h1 hx1 he1 => ?_)
          refine ok_iconst (v := nI 1) dX4_tear_31 (by decide) ?_
          refine ok_iret dX4_tear_32 rfl rfl ⟨Nat.le_of_ble_eq_true rfl, Nat.le_of_ble_eq_true rfl⟩ ?_
          exact k h1 (hx1.w.f (by decide)) (I.setT q2 hx1 (I2_up false f2 he1))
        · exact absurd c2 (by decide)
      | false =>
        rw [if_neg (by rw [ht]; decide)] at k
        rw [if_neg (by decide)]
        refine okN_if_ne (tgt := 24) dX4_tear_15 (by decide) (by omega) (fun c2 => ?_) (fun c2 => ?_)
        · exact absurd c2 (by decide)
        · refine ok_aload_n dX4_tear_18 rfl rfl ?_
          refine ok_iconst (v := nI 1) dX4_tear_19 (by decide) ?_
          refine call_X4_found dX4_tear_20 lk_X4_62 ⟨Nat.le_of_ble_eq_true rfl, Nat.le_of_ble_eq_true rfl, Nat.le_of_ble_eq_true rfl⟩ (by assumption) (Nat.le_of_ble_eq_true rfl) ?_
          refine c_X4_found I (by decide) (fun h' x' I' => ?_)
          refine ok_iret dX4_tear_23 rfl rfl ⟨Nat.le_of_ble_eq_true rfl, Nat.le_of_ble_eq_true rfl⟩ ?_
          exact k h' (x'.w.f (by decide)) I'
    · exact absurd c1 (by decide)
  · rw [q] at k
    refine okN_if_ne (tgt := 9) dX4_tear_4 (by decide) (by omega) (fun c1 => ?_) (fun c1 => ?_)
    · exact absurd c1 (by decide)
    · refine ok_iconst (v := -1) dX4_tear_7 (by decide) ?_
      refine ok_iret dX4_tear_8 rfl rfl ⟨Nat.le_of_ble_eq_true rfl, Nat.le_of_ble_eq_true rfl⟩ ?_
      exact k h fX.rf I
theorem p_X4_rule {r : Int32} (I : IX h S) (k : ∀ h', fX h h' → IX h' (sp_rule S r).2 → Q (some (.int (sp_rule S r).1)) h') : Ok g MX4_rule (m_J g MX4_rule Q) 0 [some (.ref 0), some (.int r), none] [] h 0 0 := by
  obtain ⟨e0, hr, i1, i2, i3, i4, i5, i6, i7, i7', i8⟩ := id I
  unfold sp_rule at k
  refine ok_iload_n dX4_rule_0 rfl ?_
  refine ok_if_lt (tgt := 9) dX4_rule_1 (by decide) (fun c1 => ?_) (fun c1 => ?_)
  · refine ok_iconst (v := -1) dX4_rule_9 (by decide) ?_
    refine ok_iret dX4_rule_10 rfl rfl ⟨Nat.le_of_ble_eq_true rfl, Nat.le_of_ble_eq_true rfl⟩ ?_
    rw [pl_lt c1] at k
    exact k h fX.rf I
  · refine ok_iload_n dX4_rule_4 rfl ?_
    refine ok_iconst (v := nI 4) dX4_rule_5 (by decide) ?_
    refine ok_icmp_lt (tgt := 11) dX4_rule_6 (by decide) (fun c2 => ?_) (fun c2 => ?_)
    · obtain ⟨j, z1, z2, z3⟩ := pl_in (n := 4) (by decide) c1 (by rw [tI_ge (by decide)]; rw [tI_lt (by decide)] at c2; omega)
      rw [z1] at k
      dsimp only at k
      subst z3
      refine ok_aload_n dX4_rule_11 rfl rfl ?_
      refine ok_get dX4_rule_12 fl_X4_93 (by assumption) (by rfl) ?_
      refine ok_istore_n dX4_rule_15 (st_3_2 rfl) (Nat.le_of_ble_eq_true rfl) ?_
      refine ok_aload_n dX4_rule_16 rfl rfl ?_
      refine ok_iload_n dX4_rule_17 rfl ?_
      refine okR_put dX4_rule_18 fl_X4_93 (by assumption) (Nat.le_of_ble_eq_true rfl) (fun _ => ⟨rfl, rfl⟩) set_11_8 (fun h1 hx1 he1 => ?_)
      refine ok_iload_n dX4_rule_21 rfl ?_
      refine ok_iret dX4_rule_22 rfl rfl ⟨Nat.le_of_ble_eq_true rfl, Nat.le_of_ble_eq_true rfl⟩ ?_
      have w := hx1.w
      exact k h1 (w.f (by decide)) ⟨he1, z2, i1.w w (by decide), i2.w w (by decide), i3.w w (by decide), i4.w w (by decide) (by decide), i5.w w (fun q l1 l2 => by simp <;> omega), i6.w w (by decide) (by decide), i7.w w (by decide) (by decide), i7'.w w (by decide) (by decide), i8.w w (fun q l1 l2 => by simp <;> omega)⟩
    · refine ok_iconst (v := -1) dX4_rule_9 (by decide) ?_
      refine ok_iret dX4_rule_10 rfl rfl ⟨Nat.le_of_ble_eq_true rfl, Nat.le_of_ble_eq_true rfl⟩ ?_
      rw [pl_ge (by decide) (by rw [tI_ge (by decide)]; rw [tI_lt (by decide)] at c2; omega)] at k
      exact k h fX.rf I
theorem p_X4_many {n : Int32} (I : IX h S) (k : ∀ h', fX h h' → IX h' (sp_many S n).2 → Q (some (.int (sp_many S n).1)) h') : Ok g MX4_many (m_J g MX4_many Q) 0 [some (.ref 0), some (.int n)] [] h 0 0 := by
  have e0 := I.1
  have ls := I.2.2.2.2.2.1
  have els := ls.1
  unfold sp_many at k
  refine ok_iload_n dX4_many_0 rfl ?_
  refine call_X4_isCards dX4_many_1 lk_X4_113 ⟨Nat.le_of_ble_eq_true rfl, Nat.le_of_ble_eq_true rfl, Nat.le_of_ble_eq_true rfl⟩ (Nat.le_of_ble_eq_true rfl) ?_
  refine c_X4_isCards (fun j q1 q2 q3 => ?_) (fun q => ?_)
  · rw [q1] at k
    dsimp only at k
    subst q3
    refine okN_if_eq (tgt := 18) dX4_many_4 (by decide) (by omega) (fun c1 => ?_) (fun c1 => ?_)
    · exact absurd c1 (by decide)
    · refine ok_aload_n dX4_many_7 rfl rfl ?_
      refine ok_get dX4_many_8 fl_X4_26 (by assumption) (by rfl) ?_
      refine ok_iload_n dX4_many_11 rfl ?_
      refine call_X1_length dX4_many_12 lk_X4_116 ⟨Nat.le_of_ble_eq_true rfl, Nat.le_of_ble_eq_true rfl, Nat.le_of_ble_eq_true rfl⟩ (by assumption) (Nat.le_of_ble_eq_true rfl) ?_
      refine c_X1_length ls q2 ?_
      refine ok_goto (tgt := 19) dX4_many_15 (by decide) ?_
      refine ok_iret dX4_many_19 rfl rfl ⟨Nat.le_of_ble_eq_true rfl, Nat.le_of_ble_eq_true rfl⟩ ?_
      exact k h fX.rf I
  · rw [q] at k
    refine okN_if_eq (tgt := 18) dX4_many_4 (by decide) (by omega) (fun c1 => ?_) (fun c1 => ?_)
    · refine ok_iconst (v := -1) dX4_many_18 (by decide) ?_
      refine ok_iret dX4_many_19 rfl rfl ⟨Nat.le_of_ble_eq_true rfl, Nat.le_of_ble_eq_true rfl⟩ ?_
      exact k h fX.rf I
    · exact absurd c1 (by decide)
theorem p_X4_ring {n i : Int32} (I : IX h S) (h64 : 64 ≤ h.1) (k : ∀ h', fX h h' → IX h' (sp_ring S n i).2 → Q (some (.int (sp_ring S n i).1)) h') : Ok g MX4_ring (m_J g MX4_ring Q) 0 [some (.ref 0), some (.int n), some (.int i)] [] h 0 0 := by
  have e0 := I.1
  have hr := I.2.1
  unfold sp_ring at k
  refine ok_iload_n dX4_ring_0 rfl ?_
  refine call_X4_isCards dX4_ring_1 lk_X4_113 ⟨Nat.le_of_ble_eq_true rfl, Nat.le_of_ble_eq_true rfl, Nat.le_of_ble_eq_true rfl⟩ (Nat.le_of_ble_eq_true rfl) ?_
  refine c_X4_isCards (fun j q1 q2 q3 => ?_) (fun q => ?_)
  · rw [q1] at k
    dsimp only at k
    subst q3
    refine okN_if_eq (tgt := 19) dX4_ring_4 (by decide) (by omega) (fun c1 => ?_) (fun c1 => ?_)
    · exact absurd c1 (by decide)
    · refine ok_aload_n dX4_ring_7 rfl rfl ?_
      refine ok_iload_n dX4_ring_8 rfl ?_
      refine call_X4_chartOf dX4_ring_9 lk_X4_96 ⟨Nat.le_of_ble_eq_true rfl, Nat.le_of_ble_eq_true rfl, Nat.le_of_ble_eq_true rfl⟩ (by assumption) (Nat.le_of_ble_eq_true rfl) ?_
      refine c_X4_chartOf I q2 h64 (fun h1 qc f1 I1 ch => ?_)
      have ec1 := ch.1
      refine ok_iload_n dX4_ring_12 rfl ?_
      refine call_X0_leaderOfRing dX4_ring_13 lk_X4_147 ⟨Nat.le_of_ble_eq_true rfl, Nat.le_of_ble_eq_true rfl, Nat.le_of_ble_eq_true rfl⟩ (by assumption) (Nat.le_of_ble_eq_true rfl) ?_
      refine c_X0_leaderOfRing ch (by omega) ?_
      refine ok_goto (tgt := 20) dX4_ring_16 (by decide) ?_
      refine ok_iret dX4_ring_20 rfl rfl ⟨Nat.le_of_ble_eq_true rfl, Nat.le_of_ble_eq_true rfl⟩ ?_
      exact k h1 f1 I1
  · rw [q] at k
    refine okN_if_eq (tgt := 19) dX4_ring_4 (by decide) (by omega) (fun c1 => ?_) (fun c1 => ?_)
    · refine ok_iconst (v := -1) dX4_ring_19 (by decide) ?_
      refine ok_iret dX4_ring_20 rfl rfl ⟨Nat.le_of_ble_eq_true rfl, Nat.le_of_ble_eq_true rfl⟩ ?_
      exact k h fX.rf I
    · exact absurd c1 (by decide)
theorem p_X4_rounds {n w : Int32} (I : IX h S) (h64 : 64 ≤ h.1) (k : ∀ h', fX h h' → IX h' (sp_rounds S n w).2 → Q (some (.int (sp_rounds S n w).1)) h') : Ok g MX4_rounds (m_J g MX4_rounds Q) 0 [some (.ref 0), some (.int n), some (.int w)] [] h 0 0 := by
  have e0 := I.1
  have hr := I.2.1
  unfold sp_rounds at k
  refine ok_iload_n dX4_rounds_0 rfl ?_
  refine call_X4_isCards dX4_rounds_1 lk_X4_113 ⟨Nat.le_of_ble_eq_true rfl, Nat.le_of_ble_eq_true rfl, Nat.le_of_ble_eq_true rfl⟩ (Nat.le_of_ble_eq_true rfl) ?_
  refine c_X4_isCards (fun j q1 q2 q3 => ?_) (fun q => ?_)
  · rw [q1] at k
    subst q3
    refine okN_if_ne (tgt := 9) dX4_rounds_4 (by decide) (by omega) (fun c1 => ?_) (fun c1 => ?_)
    · refine ok_iload_n dX4_rounds_9 rfl ?_
      rcases pl_cases 5 w (by decide) with e | ⟨x, e, hx5, rfl⟩
      · rw [e] at k
        dsimp only at k
        refine ok_tableOut (tgt := 89) dX4_rounds_10 (by have := pl_not e; omega) (by decide) ?_
        refine ok_iconst (v := -1) dX4_rounds_89 (by decide) ?_
        refine ok_iret dX4_rounds_90 rfl rfl ⟨Nat.le_of_ble_eq_true rfl, Nat.le_of_ble_eq_true rfl⟩ ?_
        exact k h fX.rf I
      · rw [e] at k
        dsimp only at k
        rcases (show x = 0 ∨ x = 1 ∨ x = 2 ∨ x = 3 ∨ x = 4 by omega) with rfl | rfl | rfl | rfl | rfl
        · refine ok_tableIn (tgt := 44) (off := 34) dX4_rounds_10 (by decide) (by decide) (by decide) (by decide) ?_
          refine ok_aload_n dX4_rounds_44 rfl rfl ?_
          refine ok_iload_n dX4_rounds_45 rfl ?_
          refine call_X4_chartOf dX4_rounds_46 lk_X4_96 ⟨Nat.le_of_ble_eq_true rfl, Nat.le_of_ble_eq_true rfl, Nat.le_of_ble_eq_true rfl⟩ (by assumption) (Nat.le_of_ble_eq_true rfl) ?_
          refine c_X4_chartOf I q2 h64 (fun h1 qc f1 I1 ch => ?_)
          have ec1 := ch.1
          refine ok_get dX4_rounds_49 fl_X4_132 (by assumption) (by rfl) ?_
          refine ok_iret dX4_rounds_52 rfl rfl ⟨Nat.le_of_ble_eq_true rfl, Nat.le_of_ble_eq_true rfl⟩ ?_
          exact k h1 f1 I1
        · refine ok_tableIn (tgt := 53) (off := 43) dX4_rounds_10 (by decide) (by decide) (by decide) (by decide) ?_
          refine ok_aload_n dX4_rounds_53 rfl rfl ?_
          refine ok_iload_n dX4_rounds_54 rfl ?_
          refine call_X4_chartOf dX4_rounds_55 lk_X4_96 ⟨Nat.le_of_ble_eq_true rfl, Nat.le_of_ble_eq_true rfl, Nat.le_of_ble_eq_true rfl⟩ (by assumption) (Nat.le_of_ble_eq_true rfl) ?_
          refine c_X4_chartOf I q2 h64 (fun h1 qc f1 I1 ch => ?_)
          have ec1 := ch.1
          refine ok_get dX4_rounds_58 fl_X4_135 (by assumption) (by rfl) ?_
          refine ok_iret dX4_rounds_61 rfl rfl ⟨Nat.le_of_ble_eq_true rfl, Nat.le_of_ble_eq_true rfl⟩ ?_
          exact k h1 f1 I1
        · refine ok_tableIn (tgt := 62) (off := 52) dX4_rounds_10 (by decide) (by decide) (by decide) (by decide) ?_
          refine ok_aload_n dX4_rounds_62 rfl rfl ?_
          refine ok_iload_n dX4_rounds_63 rfl ?_
          refine call_X4_chartOf dX4_rounds_64 lk_X4_96 ⟨Nat.le_of_ble_eq_true rfl, Nat.le_of_ble_eq_true rfl, Nat.le_of_ble_eq_true rfl⟩ (by assumption) (Nat.le_of_ble_eq_true rfl) ?_
          refine c_X4_chartOf I q2 h64 (fun h1 qc f1 I1 ch => ?_)
          have ec1 := ch.1
          refine ok_get dX4_rounds_67 fl_X4_138 (by assumption) (by rfl) ?_
          refine ok_iret dX4_rounds_70 rfl rfl ⟨Nat.le_of_ble_eq_true rfl, Nat.le_of_ble_eq_true rfl⟩ ?_
          exact k h1 f1 I1
        · refine ok_tableIn (tgt := 71) (off := 61) dX4_rounds_10 (by decide) (by decide) (by decide) (by decide) ?_
          refine ok_aload_n dX4_rounds_71 rfl rfl ?_
          refine ok_iload_n dX4_rounds_72 rfl ?_
          refine call_X4_chartOf dX4_rounds_73 lk_X4_96 ⟨Nat.le_of_ble_eq_true rfl, Nat.le_of_ble_eq_true rfl, Nat.le_of_ble_eq_true rfl⟩ (by assumption) (Nat.le_of_ble_eq_true rfl) ?_
          refine c_X4_chartOf I q2 h64 (fun h1 qc f1 I1 ch => ?_)
          have ec1 := ch.1
          refine ok_get dX4_rounds_76 fl_X4_141 (by assumption) (by rfl) ?_
          refine ok_iret dX4_rounds_79 rfl rfl ⟨Nat.le_of_ble_eq_true rfl, Nat.le_of_ble_eq_true rfl⟩ ?_
          exact k h1 f1 I1
        · refine ok_tableIn (tgt := 80) (off := 70) dX4_rounds_10 (by decide) (by decide) (by decide) (by decide) ?_
          refine ok_aload_n dX4_rounds_80 rfl rfl ?_
          refine ok_iload_n dX4_rounds_81 rfl ?_
          refine call_X4_chartOf dX4_rounds_82 lk_X4_96 ⟨Nat.le_of_ble_eq_true rfl, Nat.le_of_ble_eq_true rfl, Nat.le_of_ble_eq_true rfl⟩ (by assumption) (Nat.le_of_ble_eq_true rfl) ?_
          refine c_X4_chartOf I q2 h64 (fun h1 qc f1 I1 ch => ?_)
          have ec1 := ch.1
          refine ok_get dX4_rounds_85 fl_X4_144 (by assumption) (by rfl) ?_
          refine ok_iret dX4_rounds_88 rfl rfl ⟨Nat.le_of_ble_eq_true rfl, Nat.le_of_ble_eq_true rfl⟩ ?_
          exact k h1 f1 I1
    · exact absurd c1 (by decide)
  · rw [q] at k
    refine okN_if_ne (tgt := 9) dX4_rounds_4 (by decide) (by omega) (fun c1 => ?_) (fun c1 => ?_)
    · exact absurd c1 (by decide)
    · refine ok_iconst (v := -1) dX4_rounds_7 (by decide) ?_
      refine ok_iret dX4_rounds_8 rfl rfl ⟨Nat.le_of_ble_eq_true rfl, Nat.le_of_ble_eq_true rfl⟩ ?_
      exact k h fX.rf I
theorem p_X4_finding (I : IX h S) (k : Q (some (.int (sp_finding S).1)) h) : Ok g MX4_finding (m_J g MX4_finding Q) 0 [some (.ref 0)] [] h 0 0 := by
  have e0 := I.1
  refine ok_aload_n dX4_finding_0 rfl rfl ?_
  refine ok_get dX4_finding_1 fl_X4_185 (by assumption) (by rfl) ?_
  refine ok_iret dX4_finding_4 rfl rfl ⟨Nat.le_of_ble_eq_true rfl, Nat.le_of_ble_eq_true rfl⟩ ?_
  exact k
theorem p_X4_asked (I : IX h S) (k : Q (some (.long (sp_asked S))) h) : Ok g MX4_asked (m_J g MX4_asked Q) 0 [some (.ref 0)] [] h 0 0 := by
  have e0 := I.1
  refine ok_aload_n dX4_asked_0 rfl rfl ?_
  refine ok_get dX4_asked_1 fl_X4_171 (by assumption) (by rfl) ?_
  refine ok_lret dX4_asked_4 rfl ⟨Nat.le_of_ble_eq_true rfl, Nat.le_of_ble_eq_true rfl⟩ ?_
  exact k
theorem p_X4_findings {f : Int32} (I : IX h S) (k : ∀ h', fX h h' → IX h' (sp_findings S f).2 → Q (some (.int (sp_findings S f).1)) h') : Ok g MX4_findings (m_J g MX4_findings Q) 0 [some (.ref 0), some (.int f)] [] h 0 0 := by
  obtain ⟨e0, -, -, -, ⟨F3, e3, f3⟩, -⟩ := id I
  unfold sp_findings at k
  rcases pl_cases 6 f (by decide) with e | ⟨x, e, hx5, rfl⟩
  · rw [e] at k
    dsimp only at k
    have pn := pl_not e
    refine ok_iload_n dX4_findings_0 rfl ?_
    refine ok_iconst (v := nI 1) dX4_findings_1 (by decide) ?_
    refine ok_icmp_lt (tgt := 19) dX4_findings_2 (by decide) (fun c1 => ?_) (fun c1 => ?_)
    · refine ok_iconst (v := -1) dX4_findings_19 (by decide) ?_
      refine ok_iret dX4_findings_20 rfl rfl ⟨Nat.le_of_ble_eq_true rfl, Nat.le_of_ble_eq_true rfl⟩ ?_
      exact k h fX.rf I
    · refine ok_iload_n dX4_findings_5 rfl ?_
      refine ok_iconst (v := nI 5) dX4_findings_6 (by decide) ?_
      refine ok_icmp_gt (tgt := 19) dX4_findings_7 (by decide) (fun c2 => ?_) (fun c2 => ?_)
      · refine ok_iconst (v := -1) dX4_findings_19 (by decide) ?_
        refine ok_iret dX4_findings_20 rfl rfl ⟨Nat.le_of_ble_eq_true rfl, Nat.le_of_ble_eq_true rfl⟩ ?_
        exact k h fX.rf I
      · rw [tI_lt (by decide)] at c1
        rw [tI_gt (by decide)] at c2
        omega
  · rw [e] at k
    dsimp only at k
    refine ok_iload_n dX4_findings_0 rfl ?_
    refine ok_iconst (v := nI 1) dX4_findings_1 (by decide) ?_
    refine okN_icmp_lt (tgt := 19) dX4_findings_2 (by decide) (by omega) (by omega) (fun c1 => ?_) (fun c1 => ?_)
    · rw [if_pos (by omega)] at k
      refine ok_iconst (v := -1) dX4_findings_19 (by decide) ?_
      refine ok_iret dX4_findings_20 rfl rfl ⟨Nat.le_of_ble_eq_true rfl, Nat.le_of_ble_eq_true rfl⟩ ?_
      exact k h fX.rf I
    · rw [if_neg (by omega)] at k
      refine ok_iload_n dX4_findings_5 rfl ?_
      refine ok_iconst (v := nI 5) dX4_findings_6 (by decide) ?_
      refine okN_icmp_gt (tgt := 19) dX4_findings_7 (by decide) (by omega) (by omega) (fun c2 => ?_) (fun c2 => ?_)
      · exact absurd c2 (by omega)
      · refine ok_aload_n dX4_findings_10 rfl rfl ?_
        refine ok_get dX4_findings_11 fl_X4_19 (by assumption) (by rfl) ?_
        refine ok_iload_n dX4_findings_14 rfl ?_
        first | refine okN_iald dX4_findings_15 (by assumption) (by omega) (by decide) ?_ | refine okF_iald dX4_findings_15 (by assumption) (by omega) (by omega) ?_ | refine okN_kald dX4_findings_15 (by assumption) (by omega) (by decide) ?_
        rw [f3 x hx5]
        refine ok_goto (tgt := 20) dX4_findings_16 (by decide) ?_
        refine ok_iret dX4_findings_20 rfl rfl ⟨Nat.le_of_ble_eq_true rfl, Nat.le_of_ble_eq_true rfl⟩ ?_
        exact k h fX.rf I
end PUB2
