/-- a row p that is there holds another parting -/
theorem IX.setP {h h' : mH} {S : ST} (I : IX h S) {p : Nat} {l : List Nat} (hp : p < 12) (ht : S.1 p = true) (x : hx [22 + 2 * p, 23 + 2 * p] h h') (ol : okl l) (r : Rw h' (22 + 2 * p) (23 + 2 * p) l) : IX h' (s_P S p l) := by
  obtain ⟨e0, hr, i1, i2, i3, i4, i5, i6, i7, i7', i8⟩ := I
  have w := x.w
  refine ⟨w.at (by simp <;> omega) e0, hr, i1.w w (by simp <;> omega), i2.w w (by simp <;> omega), i3.w w (by simp <;> omega), i4.w w (by simp <;> omega) (by simp <;> omega), i5.w w (fun q l1 l2 => by simp <;> omega), i6.w w (by simp <;> omega) (by simp <;> omega), i7.w w (by simp <;> omega) (by simp <;> omega), i7'.w w (by simp <;> omega) (by simp <;> omega), fun p' hp' => ?_⟩
  by_cases c : p' = p
  · subst c
    refine ⟨l, ol, r, fun _ => ?_⟩
    show l = up S.2.1 p' l p'
    rw [up_eq]
  · obtain ⟨l', o', e', f'⟩ := i8 p' hp'
    refine ⟨l', o', e'.w w (by simp <;> omega) (by simp <;> omega), fun t => ?_⟩
    show l' = up S.2.1 p l p'
    rw [up_ne c]
    exact f' t
/-! ===== the class's calls on one PARTING ===== -/
section PUB1
variable {g : mG} {h : mH} {Q : Option Value → mH → Prop} {S : ST}
theorem p_X4_kind {p : Int32} (I : IX h S) (h64 : 64 ≤ h.1) (k : ∀ h', fX h h' → IX h' (sp_kind S p).2 → Q (some (.int (sp_kind S p).1)) h') : Ok g MX4_kind (m_J g MX4_kind Q) 0 [some (.ref 0), some (.int p), none] [] h 0 0 := by
  have e0 := I.1
  have hr := I.2.1
  unfold sp_kind ofp at k
  refine ok_iload_n dX4_kind_0 rfl ?_
  refine call_X4_isPlace dX4_kind_1 lk_X4_51 ⟨Nat.le_of_ble_eq_true rfl, Nat.le_of_ble_eq_true rfl, Nat.le_of_ble_eq_true rfl⟩ (Nat.le_of_ble_eq_true rfl) ?_
  refine c_X4_isPlace (fun j q1 q2 q3 => ?_) (fun q => ?_)
  · rw [q1] at k
    dsimp only at k
    refine okN_if_ne (tgt := 9) dX4_kind_4 (by decide) (by omega) (fun c1 => ?_) (fun c1 => ?_)
    · refine ok_aload_n dX4_kind_9 rfl rfl ?_
      refine ok_iload_n dX4_kind_10 rfl ?_
      refine call_X4_rowAt dX4_kind_11 lk_X4_58 ⟨Nat.le_of_ble_eq_true rfl, Nat.le_of_ble_eq_true rfl, Nat.le_of_ble_eq_true rfl⟩ (by assumption) (Nat.le_of_ble_eq_true rfl) ?_
      refine c_X4_rowAt I (fun j' w1 w2 w3 => ?_) (fun w => ?_)
      · have ej : j' = j := by rw [q1] at w1; exact (Option.some.inj w1).symm
        subst ej
        rw [if_pos w3] at k
        obtain ⟨ol, rr⟩ := I.2.2.2.2.2.2.2.2.2.2.row q2 w3
        have er := rr.1
        have ls := I.2.2.2.2.2.1
        have els := ls.1
        have hsum := ol.2.2
        have hlen := ol.len
        refine ok_astore_n dX4_kind_14 (st_3_2 rfl) (Nat.le_of_ble_eq_true rfl) rfl ?_
        refine ok_aload_n dX4_kind_15 rfl rfl ?_
        refine ok_ifnonnull (tgt := 25) dX4_kind_16 (by decide) rfl (fun c2 => ?_) (fun c2 => ?_)
        · refine ok_aload_n dX4_kind_25 rfl rfl ?_
          refine ok_aload_n dX4_kind_26 rfl rfl ?_
          refine ok_get dX4_kind_27 fl_X4_90 (by assumption) (by rfl) ?_
          refine call_X4_chartOf dX4_kind_30 lk_X4_96 ⟨Nat.le_of_ble_eq_true rfl, Nat.le_of_ble_eq_true rfl, Nat.le_of_ble_eq_true rfl⟩ (by assumption) (Nat.le_of_ble_eq_true rfl) ?_
          refine c_X4_chartOf I (by omega) h64 (fun h1 qc f1 I1 ch => ?_)
          obtain ⟨ol1, rr1⟩ := I1.2.2.2.2.2.2.2.2.2.2.row q2 w3
          have er1 := rr1.1
          have e01 := I1.1
          have ls1 := I1.2.2.2.2.2.1
          have els1 := ls1.1
          have ec1 := ch.1
          obtain ⟨hs1, hk1⟩ := nb_NN ol hr
          refine ok_aload_n dX4_kind_33 rfl rfl ?_
          refine ok_get dX4_kind_34 fl_X4_26 (by assumption) (by rfl) ?_
          refine ok_aload_n dX4_kind_37 rfl rfl ?_
          refine call_X1_numberOf dX4_kind_38 lk_X4_100 ⟨Nat.le_of_ble_eq_true rfl, Nat.le_of_ble_eq_true rfl, Nat.le_of_ble_eq_true rfl⟩ (by assumption) (Nat.le_of_ble_eq_true rfl) ?_
          refine c_X1_numberOf ls1 rr1 ol ?_
          dsimp only [m_push]
          refine call_X0_kindOf dX4_kind_41 lk_X4_104 ⟨Nat.le_of_ble_eq_true rfl, Nat.le_of_ble_eq_true rfl, Nat.le_of_ble_eq_true rfl⟩ (by assumption) (Nat.le_of_ble_eq_true rfl) ?_
          refine c_X0_kindOf ch hs1 hk1 ?_
          refine ok_iret dX4_kind_44 rfl rfl ⟨Nat.le_of_ble_eq_true rfl, Nat.le_of_ble_eq_true rfl⟩ ?_
          exact k h1 f1 I1
        · cases c2
      · rw [if_neg (by rw [w j q1]; decide)] at k
        refine ok_astore_n dX4_kind_14 (st_3_2 rfl) (Nat.le_of_ble_eq_true rfl) rfl ?_
        refine ok_aload_n dX4_kind_15 rfl rfl ?_
        refine ok_ifnonnull (tgt := 25) dX4_kind_16 (by decide) rfl (fun c2 => ?_) (fun c2 => ?_)
        · exact absurd rfl c2
        · refine ok_aload_n dX4_kind_19 rfl rfl ?_
          refine ok_iconst (v := nI 1) dX4_kind_20 (by decide) ?_
          refine call_X4_found dX4_kind_21 lk_X4_62 ⟨Nat.le_of_ble_eq_true rfl, Nat.le_of_ble_eq_true rfl, Nat.le_of_ble_eq_true rfl⟩ (by assumption) (Nat.le_of_ble_eq_true rfl) ?_
          refine c_X4_found I (by decide) (fun h' x' I' => ?_)
          refine ok_iret dX4_kind_24 rfl rfl ⟨Nat.le_of_ble_eq_true rfl, Nat.le_of_ble_eq_true rfl⟩ ?_
          exact k h' (x'.w.f (by decide)) I'
    · exact absurd c1 (by decide)
  · rw [q] at k
    refine okN_if_ne (tgt := 9) dX4_kind_4 (by decide) (by omega) (fun c1 => ?_) (fun c1 => ?_)
    · exact absurd c1 (by decide)
    · refine ok_iconst (v := -1) dX4_kind_7 (by decide) ?_
      refine ok_iret dX4_kind_8 rfl rfl ⟨Nat.le_of_ble_eq_true rfl, Nat.le_of_ble_eq_true rfl⟩ ?_
      exact k h fX.rf I
theorem p_X4_mean {p : Int32} (I : IX h S) (h64 : 64 ≤ h.1) (k : ∀ h', fX h h' → IX h' (sp_mean S p).2 → Q (some (.int (sp_mean S p).1)) h') : Ok g MX4_mean (m_J g MX4_mean Q) 0 [some (.ref 0), some (.int p), none] [] h 0 0 := by
  have e0 := I.1
  have hr := I.2.1
  unfold sp_mean ofp at k
  refine ok_iload_n dX4_mean_0 rfl ?_
  refine call_X4_isPlace dX4_mean_1 lk_X4_51 ⟨Nat.le_of_ble_eq_true rfl, Nat.le_of_ble_eq_true rfl, Nat.le_of_ble_eq_true rfl⟩ (Nat.le_of_ble_eq_true rfl) ?_
  refine c_X4_isPlace (fun j q1 q2 q3 => ?_) (fun q => ?_)
  · rw [q1] at k
    dsimp only at k
    refine okN_if_ne (tgt := 9) dX4_mean_4 (by decide) (by omega) (fun c1 => ?_) (fun c1 => ?_)
    · refine ok_aload_n dX4_mean_9 rfl rfl ?_
      refine ok_iload_n dX4_mean_10 rfl ?_
      refine call_X4_rowAt dX4_mean_11 lk_X4_58 ⟨Nat.le_of_ble_eq_true rfl, Nat.le_of_ble_eq_true rfl, Nat.le_of_ble_eq_true rfl⟩ (by assumption) (Nat.le_of_ble_eq_true rfl) ?_
      refine c_X4_rowAt I (fun j' w1 w2 w3 => ?_) (fun w => ?_)
      · have ej : j' = j := by rw [q1] at w1; exact (Option.some.inj w1).symm
        subst ej
        rw [if_pos w3] at k
        obtain ⟨ol, rr⟩ := I.2.2.2.2.2.2.2.2.2.2.row q2 w3
        have er := rr.1
        have ls := I.2.2.2.2.2.1
        have els := ls.1
        have hsum := ol.2.2
        have hlen := ol.len
        refine ok_astore_n dX4_mean_14 (st_3_2 rfl) (Nat.le_of_ble_eq_true rfl) rfl ?_
        refine ok_aload_n dX4_mean_15 rfl rfl ?_
        refine ok_ifnonnull (tgt := 25) dX4_mean_16 (by decide) rfl (fun c2 => ?_) (fun c2 => ?_)
        · refine ok_aload_n dX4_mean_25 rfl rfl ?_
          refine ok_get dX4_mean_26 fl_X4_73 (by assumption) (by rfl) ?_
          refine okN_if_le (tgt := 44) dX4_mean_29 (by decide) (by omega) (fun c3 => ?_) (fun c3 => ?_)
          · rw [if_pos c3] at k
            refine ok_aload_n dX4_mean_44 rfl rfl ?_
            refine ok_iconst (v := nI 4) dX4_mean_45 (by decide) ?_
            refine call_X4_found dX4_mean_46 lk_X4_62 ⟨Nat.le_of_ble_eq_true rfl, Nat.le_of_ble_eq_true rfl, Nat.le_of_ble_eq_true rfl⟩ (by assumption) (Nat.le_of_ble_eq_true rfl) ?_
            refine c_X4_found I (by decide) (fun h' x' I' => ?_)
            refine ok_iret dX4_mean_49 rfl rfl ⟨Nat.le_of_ble_eq_true rfl, Nat.le_of_ble_eq_true rfl⟩ ?_
            exact k h' (x'.w.f (by decide)) I'
          · rw [if_neg (by omega)] at k
            refine ok_aload_n dX4_mean_32 rfl rfl ?_
            refine ok_get dX4_mean_33 fl_X4_90 (by assumption) (by rfl) ?_
            refine ok_aload_n dX4_mean_36 rfl rfl ?_
            refine ok_get dX4_mean_37 fl_X4_73 (by assumption) (by rfl) ?_
            refine okN_idiv dX4_mean_40 (by omega) (by omega) (by omega) ?_
            refine ok_goto (tgt := 49) dX4_mean_41 (by decide) ?_
            refine ok_iret dX4_mean_49 rfl rfl ⟨Nat.le_of_ble_eq_true rfl, Nat.le_of_ble_eq_true rfl⟩ ?_
            exact k h fX.rf I
        · cases c2
      · rw [if_neg (by rw [w j q1]; decide)] at k
        refine ok_astore_n dX4_mean_14 (st_3_2 rfl) (Nat.le_of_ble_eq_true rfl) rfl ?_
        refine ok_aload_n dX4_mean_15 rfl rfl ?_
        refine ok_ifnonnull (tgt := 25) dX4_mean_16 (by decide) rfl (fun c2 => ?_) (fun c2 => ?_)
        · exact absurd rfl c2
        · refine ok_aload_n dX4_mean_19 rfl rfl ?_
          refine ok_iconst (v := nI 1) dX4_mean_20 (by decide) ?_
          refine call_X4_found dX4_mean_21 lk_X4_62 ⟨Nat.le_of_ble_eq_true rfl, Nat.le_of_ble_eq_true rfl, Nat.le_of_ble_eq_true rfl⟩ (by assumption) (Nat.le_of_ble_eq_true rfl) ?_
          refine c_X4_found I (by decide) (fun h' x' I' => ?_)
          refine ok_iret dX4_mean_24 rfl rfl ⟨Nat.le_of_ble_eq_true rfl, Nat.le_of_ble_eq_true rfl⟩ ?_
          exact k h' (x'.w.f (by decide)) I'
    · exact absurd c1 (by decide)
  · rw [q] at k
    refine okN_if_ne (tgt := 9) dX4_mean_4 (by decide) (by omega) (fun c1 => ?_) (fun c1 => ?_)
    · exact absurd c1 (by decide)
    · refine ok_iconst (v := -1) dX4_mean_7 (by decide) ?_
      refine ok_iret dX4_mean_8 rfl rfl ⟨Nat.le_of_ble_eq_true rfl, Nat.le_of_ble_eq_true rfl⟩ ?_
      exact k h fX.rf I
theorem p_X4_rank {p : Int32} (I : IX h S) (h64 : 64 ≤ h.1) (k : ∀ h', fX h h' → IX h' (sp_rank S p).2 → Q (some (.int (sp_rank S p).1)) h') : Ok g MX4_rank (m_J g MX4_rank Q) 0 [some (.ref 0), some (.int p), none] [] h 0 0 := by
  have e0 := I.1
  have hr := I.2.1
  unfold sp_rank ofp at k
  refine ok_iload_n dX4_rank_0 rfl ?_
  refine call_X4_isPlace dX4_rank_1 lk_X4_51 ⟨Nat.le_of_ble_eq_true rfl, Nat.le_of_ble_eq_true rfl, Nat.le_of_ble_eq_true rfl⟩ (Nat.le_of_ble_eq_true rfl) ?_
  refine c_X4_isPlace (fun j q1 q2 q3 => ?_) (fun q => ?_)
  · rw [q1] at k
    dsimp only at k
    refine okN_if_ne (tgt := 9) dX4_rank_4 (by decide) (by omega) (fun c1 => ?_) (fun c1 => ?_)
    · refine ok_aload_n dX4_rank_9 rfl rfl ?_
      refine ok_iload_n dX4_rank_10 rfl ?_
      refine call_X4_rowAt dX4_rank_11 lk_X4_58 ⟨Nat.le_of_ble_eq_true rfl, Nat.le_of_ble_eq_true rfl, Nat.le_of_ble_eq_true rfl⟩ (by assumption) (Nat.le_of_ble_eq_true rfl) ?_
      refine c_X4_rowAt I (fun j' w1 w2 w3 => ?_) (fun w => ?_)
      · have ej : j' = j := by rw [q1] at w1; exact (Option.some.inj w1).symm
        subst ej
        rw [if_pos w3] at k
        obtain ⟨ol, rr⟩ := I.2.2.2.2.2.2.2.2.2.2.row q2 w3
        have er := rr.1
        have ls := I.2.2.2.2.2.1
        have els := ls.1
        have hsum := ol.2.2
        have hlen := ol.len
        refine ok_astore_n dX4_rank_14 (st_3_2 rfl) (Nat.le_of_ble_eq_true rfl) rfl ?_
        refine ok_aload_n dX4_rank_15 rfl rfl ?_
        refine ok_ifnonnull (tgt := 27) dX4_rank_16 (by decide) rfl (fun c2 => ?_) (fun c2 => ?_)
        · refine ok_aload_n dX4_rank_27 rfl rfl ?_
          refine ok_get dX4_rank_28 fl_X4_26 (by assumption) (by rfl) ?_
          refine ok_aload_n dX4_rank_31 rfl rfl ?_
          refine call_X1_numberOf dX4_rank_32 lk_X4_100 ⟨Nat.le_of_ble_eq_true rfl, Nat.le_of_ble_eq_true rfl, Nat.le_of_ble_eq_true rfl⟩ (by assumption) (Nat.le_of_ble_eq_true rfl) ?_
          refine c_X1_numberOf ls rr ol ?_
          refine ok_iret dX4_rank_35 rfl rfl ⟨Nat.le_of_ble_eq_true rfl, Nat.le_of_ble_eq_true rfl⟩ ?_
          exact k h fX.rf I
        · cases c2
      · rw [if_neg (by rw [w j q1]; decide)] at k
        refine ok_astore_n dX4_rank_14 (st_3_2 rfl) (Nat.le_of_ble_eq_true rfl) rfl ?_
        refine ok_aload_n dX4_rank_15 rfl rfl ?_
        refine ok_ifnonnull (tgt := 27) dX4_rank_16 (by decide) rfl (fun c2 => ?_) (fun c2 => ?_)
        · exact absurd rfl c2
        · refine ok_aload_n dX4_rank_19 rfl rfl ?_
          refine ok_iconst (v := nI 1) dX4_rank_20 (by decide) ?_
          refine call_X4_found dX4_rank_21 lk_X4_62 ⟨Nat.le_of_ble_eq_true rfl, Nat.le_of_ble_eq_true rfl, Nat.le_of_ble_eq_true rfl⟩ (by assumption) (Nat.le_of_ble_eq_true rfl) ?_
          refine c_X4_found I (by decide) (fun h' x' I' => ?_)
          refine ok_goto (tgt := 35) dX4_rank_24 (by decide) ?_
          refine ok_iret dX4_rank_35 rfl rfl ⟨Nat.le_of_ble_eq_true rfl, Nat.le_of_ble_eq_true rfl⟩ ?_
          exact k h' (x'.w.f (by decide)) I'
    · exact absurd c1 (by decide)
  · rw [q] at k
    refine okN_if_ne (tgt := 9) dX4_rank_4 (by decide) (by omega) (fun c1 => ?_) (fun c1 => ?_)
    · exact absurd c1 (by decide)
    · refine ok_iconst (v := -1) dX4_rank_7 (by decide) ?_
      refine ok_iret dX4_rank_8 rfl rfl ⟨Nat.le_of_ble_eq_true rfl, Nat.le_of_ble_eq_true rfl⟩ ?_
      exact k h fX.rf I
theorem p_X4_tail {p : Int32} (I : IX h S) (h64 : 64 ≤ h.1) (k : ∀ h', fX h h' → IX h' (sp_tail S p).2 → Q (some (.int (sp_tail S p).1)) h') : Ok g MX4_tail (m_J g MX4_tail Q) 0 [some (.ref 0), some (.int p), none] [] h 0 0 := by
  have e0 := I.1
  have hr := I.2.1
  unfold sp_tail ofp at k
  refine ok_iload_n dX4_tail_0 rfl ?_
  refine call_X4_isPlace dX4_tail_1 lk_X4_51 ⟨Nat.le_of_ble_eq_true rfl, Nat.le_of_ble_eq_true rfl, Nat.le_of_ble_eq_true rfl⟩ (Nat.le_of_ble_eq_true rfl) ?_
  refine c_X4_isPlace (fun j q1 q2 q3 => ?_) (fun q => ?_)
  · rw [q1] at k
    dsimp only at k
    refine okN_if_ne (tgt := 9) dX4_tail_4 (by decide) (by omega) (fun c1 => ?_) (fun c1 => ?_)
    · refine ok_aload_n dX4_tail_9 rfl rfl ?_
      refine ok_iload_n dX4_tail_10 rfl ?_
      refine call_X4_rowAt dX4_tail_11 lk_X4_58 ⟨Nat.le_of_ble_eq_true rfl, Nat.le_of_ble_eq_true rfl, Nat.le_of_ble_eq_true rfl⟩ (by assumption) (Nat.le_of_ble_eq_true rfl) ?_
      refine c_X4_rowAt I (fun j' w1 w2 w3 => ?_) (fun w => ?_)
      · have ej : j' = j := by rw [q1] at w1; exact (Option.some.inj w1).symm
        subst ej
        rw [if_pos w3] at k
        obtain ⟨ol, rr⟩ := I.2.2.2.2.2.2.2.2.2.2.row q2 w3
        have er := rr.1
        have ls := I.2.2.2.2.2.1
        have els := ls.1
        have hsum := ol.2.2
        have hlen := ol.len
        refine ok_astore_n dX4_tail_14 (st_3_2 rfl) (Nat.le_of_ble_eq_true rfl) rfl ?_
        refine ok_aload_n dX4_tail_15 rfl rfl ?_
        refine ok_ifnonnull (tgt := 27) dX4_tail_16 (by decide) rfl (fun c2 => ?_) (fun c2 => ?_)
        · refine ok_aload_n dX4_tail_27 rfl rfl ?_
          refine ok_aload_n dX4_tail_28 rfl rfl ?_
          refine ok_get dX4_tail_29 fl_X4_90 (by assumption) (by rfl) ?_
          refine call_X4_chartOf dX4_tail_32 lk_X4_96 ⟨Nat.le_of_ble_eq_true rfl, Nat.le_of_ble_eq_true rfl, Nat.le_of_ble_eq_true rfl⟩ (by assumption) (Nat.le_of_ble_eq_true rfl) ?_
          refine c_X4_chartOf I (by omega) h64 (fun h1 qc f1 I1 ch => ?_)
          obtain ⟨ol1, rr1⟩ := I1.2.2.2.2.2.2.2.2.2.2.row q2 w3
          have er1 := rr1.1
          have e01 := I1.1
          have ls1 := I1.2.2.2.2.2.1
          have els1 := ls1.1
          have ec1 := ch.1
          obtain ⟨hs1, hk1⟩ := nb_NN ol hr
          refine ok_aload_n dX4_tail_35 rfl rfl ?_
          refine ok_get dX4_tail_36 fl_X4_26 (by assumption) (by rfl) ?_
          refine ok_aload_n dX4_tail_39 rfl rfl ?_
          refine call_X1_numberOf dX4_tail_40 lk_X4_100 ⟨Nat.le_of_ble_eq_true rfl, Nat.le_of_ble_eq_true rfl, Nat.le_of_ble_eq_true rfl⟩ (by assumption) (Nat.le_of_ble_eq_true rfl) ?_
          refine c_X1_numberOf ls1 rr1 ol ?_
          dsimp only [m_push]
          refine call_X0_tailOf dX4_tail_43 lk_X4_110 ⟨Nat.le_of_ble_eq_true rfl, Nat.le_of_ble_eq_true rfl, Nat.le_of_ble_eq_true rfl⟩ (by assumption) (Nat.le_of_ble_eq_true rfl) ?_
          refine c_X0_tailOf ch hs1 hk1 ?_
          refine ok_iret dX4_tail_46 rfl rfl ⟨Nat.le_of_ble_eq_true rfl, Nat.le_of_ble_eq_true rfl⟩ ?_
          exact k h1 f1 I1
        · cases c2
      · rw [if_neg (by rw [w j q1]; decide)] at k
        refine ok_astore_n dX4_tail_14 (st_3_2 rfl) (Nat.le_of_ble_eq_true rfl) rfl ?_
        refine ok_aload_n dX4_tail_15 rfl rfl ?_
        refine ok_ifnonnull (tgt := 27) dX4_tail_16 (by decide) rfl (fun c2 => ?_) (fun c2 => ?_)
        · exact absurd rfl c2
        · refine ok_aload_n dX4_tail_19 rfl rfl ?_
          refine ok_iconst (v := nI 1) dX4_tail_20 (by decide) ?_
          refine call_X4_found dX4_tail_21 lk_X4_62 ⟨Nat.le_of_ble_eq_true rfl, Nat.le_of_ble_eq_true rfl, Nat.le_of_ble_eq_true rfl⟩ (by assumption) (Nat.le_of_ble_eq_true rfl) ?_
          refine c_X4_found I (by decide) (fun h' x' I' => ?_)
          refine ok_goto (tgt := 46) dX4_tail_24 (by decide) ?_
          refine ok_iret dX4_tail_46 rfl rfl ⟨Nat.le_of_ble_eq_true rfl, Nat.le_of_ble_eq_true rfl⟩ ?_
          exact k h' (x'.w.f (by decide)) I'
    · exact absurd c1 (by decide)
  · rw [q] at k
    refine okN_if_ne (tgt := 9) dX4_tail_4 (by decide) (by omega) (fun c1 => ?_) (fun c1 => ?_)
    · exact absurd c1 (by decide)
    · refine ok_iconst (v := -1) dX4_tail_7 (by decide) ?_
      refine ok_iret dX4_tail_8 rfl rfl ⟨Nat.le_of_ble_eq_true rfl, Nat.le_of_ble_eq_true rfl⟩ ?_
      exact k h fX.rf I
theorem p_X4_beat {p : Int32} (I : IX h S) (h64 : 64 ≤ h.1) (k : ∀ h', fX h h' → IX h' (sp_beat S p).2 → Q (some (.int (sp_beat S p).1)) h') : Ok g MX4_beat (m_J g MX4_beat Q) 0 [some (.ref 0), some (.int p), none] [] h 0 0 := by
  have e0 := I.1
  have hr := I.2.1
  unfold sp_beat ofp at k
  refine ok_iload_n dX4_beat_0 rfl ?_
  refine call_X4_isPlace dX4_beat_1 lk_X4_51 ⟨Nat.le_of_ble_eq_true rfl, Nat.le_of_ble_eq_true rfl, Nat.le_of_ble_eq_true rfl⟩ (Nat.le_of_ble_eq_true rfl) ?_
  refine c_X4_isPlace (fun j q1 q2 q3 => ?_) (fun q => ?_)
  · rw [q1] at k
    dsimp only at k
    refine okN_if_ne (tgt := 9) dX4_beat_4 (by decide) (by omega) (fun c1 => ?_) (fun c1 => ?_)
    · refine ok_aload_n dX4_beat_9 rfl rfl ?_
      refine ok_iload_n dX4_beat_10 rfl ?_
      refine call_X4_rowAt dX4_beat_11 lk_X4_58 ⟨Nat.le_of_ble_eq_true rfl, Nat.le_of_ble_eq_true rfl, Nat.le_of_ble_eq_true rfl⟩ (by assumption) (Nat.le_of_ble_eq_true rfl) ?_
      refine c_X4_rowAt I (fun j' w1 w2 w3 => ?_) (fun w => ?_)
      · have ej : j' = j := by rw [q1] at w1; exact (Option.some.inj w1).symm
        subst ej
        rw [if_pos w3] at k
        obtain ⟨ol, rr⟩ := I.2.2.2.2.2.2.2.2.2.2.row q2 w3
        have er := rr.1
        have ls := I.2.2.2.2.2.1
        have els := ls.1
        have hsum := ol.2.2
        have hlen := ol.len
        refine ok_astore_n dX4_beat_14 (st_3_2 rfl) (Nat.le_of_ble_eq_true rfl) rfl ?_
        refine ok_aload_n dX4_beat_15 rfl rfl ?_
        refine ok_ifnonnull (tgt := 27) dX4_beat_16 (by decide) rfl (fun c2 => ?_) (fun c2 => ?_)
        · refine ok_aload_n dX4_beat_27 rfl rfl ?_
          refine ok_aload_n dX4_beat_28 rfl rfl ?_
          refine ok_get dX4_beat_29 fl_X4_90 (by assumption) (by rfl) ?_
          refine call_X4_chartOf dX4_beat_32 lk_X4_96 ⟨Nat.le_of_ble_eq_true rfl, Nat.le_of_ble_eq_true rfl, Nat.le_of_ble_eq_true rfl⟩ (by assumption) (Nat.le_of_ble_eq_true rfl) ?_
          refine c_X4_chartOf I (by omega) h64 (fun h1 qc f1 I1 ch => ?_)
          obtain ⟨ol1, rr1⟩ := I1.2.2.2.2.2.2.2.2.2.2.row q2 w3
          have er1 := rr1.1
          have e01 := I1.1
          have ls1 := I1.2.2.2.2.2.1
          have els1 := ls1.1
          have ec1 := ch.1
          obtain ⟨hs1, hk1⟩ := nb_NN ol hr
          refine ok_aload_n dX4_beat_35 rfl rfl ?_
          refine ok_get dX4_beat_36 fl_X4_26 (by assumption) (by rfl) ?_
          refine ok_aload_n dX4_beat_39 rfl rfl ?_
          refine call_X1_numberOf dX4_beat_40 lk_X4_100 ⟨Nat.le_of_ble_eq_true rfl, Nat.le_of_ble_eq_true rfl, Nat.le_of_ble_eq_true rfl⟩ (by assumption) (Nat.le_of_ble_eq_true rfl) ?_
          refine c_X1_numberOf ls1 rr1 ol ?_
          dsimp only [m_push]
          refine call_X0_beatOf dX4_beat_43 lk_X4_107 ⟨Nat.le_of_ble_eq_true rfl, Nat.le_of_ble_eq_true rfl, Nat.le_of_ble_eq_true rfl⟩ (by assumption) (Nat.le_of_ble_eq_true rfl) ?_
          refine c_X0_beatOf ch hs1 hk1 ?_
          refine ok_iret dX4_beat_46 rfl rfl ⟨Nat.le_of_ble_eq_true rfl, Nat.le_of_ble_eq_true rfl⟩ ?_
          exact k h1 f1 I1
        · cases c2
      · rw [if_neg (by rw [w j q1]; decide)] at k
        refine ok_astore_n dX4_beat_14 (st_3_2 rfl) (Nat.le_of_ble_eq_true rfl) rfl ?_
        refine ok_aload_n dX4_beat_15 rfl rfl ?_
        refine ok_ifnonnull (tgt := 27) dX4_beat_16 (by decide) rfl (fun c2 => ?_) (fun c2 => ?_)
        · exact absurd rfl c2
        · refine ok_aload_n dX4_beat_19 rfl rfl ?_
          refine ok_iconst (v := nI 1) dX4_beat_20 (by decide) ?_
          refine call_X4_found dX4_beat_21 lk_X4_62 ⟨Nat.le_of_ble_eq_true rfl, Nat.le_of_ble_eq_true rfl, Nat.le_of_ble_eq_true rfl⟩ (by assumption) (Nat.le_of_ble_eq_true rfl) ?_
          refine c_X4_found I (by decide) (fun h' x' I' => ?_)
          refine ok_goto (tgt := 46) dX4_beat_24 (by decide) ?_
          refine ok_iret dX4_beat_46 rfl rfl ⟨Nat.le_of_ble_eq_true rfl, Nat.le_of_ble_eq_true rfl⟩ ?_
          exact k h' (x'.w.f (by decide)) I'
    · exact absurd c1 (by decide)
  · rw [q] at k
    refine okN_if_ne (tgt := 9) dX4_beat_4 (by decide) (by omega) (fun c1 => ?_) (fun c1 => ?_)
    · exact absurd c1 (by decide)
    · refine ok_iconst (v := -1) dX4_beat_7 (by decide) ?_
      refine ok_iret dX4_beat_8 rfl rfl ⟨Nat.le_of_ble_eq_true rfl, Nat.le_of_ble_eq_true rfl⟩ ?_
      exact k h fX.rf I
theorem p_X4_leader {p : Int32} (I : IX h S) (h64 : 64 ≤ h.1) (k : ∀ h', fX h h' → IX h' (sp_leader S p).2 → Q (some (.int (sp_leader S p).1)) h') : Ok g MX4_leader (m_J g MX4_leader Q) 0 [some (.ref 0), some (.int p), none] [] h 0 0 := by
  have e0 := I.1
  have hr := I.2.1
  unfold sp_leader ofp at k
  refine ok_iload_n dX4_leader_0 rfl ?_
  refine call_X4_isPlace dX4_leader_1 lk_X4_51 ⟨Nat.le_of_ble_eq_true rfl, Nat.le_of_ble_eq_true rfl, Nat.le_of_ble_eq_true rfl⟩ (Nat.le_of_ble_eq_true rfl) ?_
  refine c_X4_isPlace (fun j q1 q2 q3 => ?_) (fun q => ?_)
  · rw [q1] at k
    dsimp only at k
    refine okN_if_ne (tgt := 9) dX4_leader_4 (by decide) (by omega) (fun c1 => ?_) (fun c1 => ?_)
    · refine ok_aload_n dX4_leader_9 rfl rfl ?_
      refine ok_iload_n dX4_leader_10 rfl ?_
      refine call_X4_rowAt dX4_leader_11 lk_X4_58 ⟨Nat.le_of_ble_eq_true rfl, Nat.le_of_ble_eq_true rfl, Nat.le_of_ble_eq_true rfl⟩ (by assumption) (Nat.le_of_ble_eq_true rfl) ?_
      refine c_X4_rowAt I (fun j' w1 w2 w3 => ?_) (fun w => ?_)
      · have ej : j' = j := by rw [q1] at w1; exact (Option.some.inj w1).symm
        subst ej
        rw [if_pos w3] at k
        obtain ⟨ol, rr⟩ := I.2.2.2.2.2.2.2.2.2.2.row q2 w3
        have er := rr.1
        have ls := I.2.2.2.2.2.1
        have els := ls.1
        have hsum := ol.2.2
        have hlen := ol.len
        refine ok_astore_n dX4_leader_14 (st_3_2 rfl) (Nat.le_of_ble_eq_true rfl) rfl ?_
        refine ok_aload_n dX4_leader_15 rfl rfl ?_
        refine ok_ifnonnull (tgt := 27) dX4_leader_16 (by decide) rfl (fun c2 => ?_) (fun c2 => ?_)
        · refine ok_aload_n dX4_leader_27 rfl rfl ?_
          refine ok_aload_n dX4_leader_28 rfl rfl ?_
          refine ok_get dX4_leader_29 fl_X4_90 (by assumption) (by rfl) ?_
          refine call_X4_chartOf dX4_leader_32 lk_X4_96 ⟨Nat.le_of_ble_eq_true rfl, Nat.le_of_ble_eq_true rfl, Nat.le_of_ble_eq_true rfl⟩ (by assumption) (Nat.le_of_ble_eq_true rfl) ?_
          refine c_X4_chartOf I (by omega) h64 (fun h1 qc f1 I1 ch => ?_)
          obtain ⟨ol1, rr1⟩ := I1.2.2.2.2.2.2.2.2.2.2.row q2 w3
          have er1 := rr1.1
          have e01 := I1.1
          have ls1 := I1.2.2.2.2.2.1
          have els1 := ls1.1
          have ec1 := ch.1
          obtain ⟨hs1, hk1⟩ := nb_NN ol hr
          refine ok_aload_n dX4_leader_35 rfl rfl ?_
          refine ok_get dX4_leader_36 fl_X4_26 (by assumption) (by rfl) ?_
          refine ok_aload_n dX4_leader_39 rfl rfl ?_
          refine call_X1_numberOf dX4_leader_40 lk_X4_100 ⟨Nat.le_of_ble_eq_true rfl, Nat.le_of_ble_eq_true rfl, Nat.le_of_ble_eq_true rfl⟩ (by assumption) (Nat.le_of_ble_eq_true rfl) ?_
          refine c_X1_numberOf ls1 rr1 ol ?_
          dsimp only [m_push]
          refine call_X0_leaderOf dX4_leader_43 lk_X4_129 ⟨Nat.le_of_ble_eq_true rfl, Nat.le_of_ble_eq_true rfl, Nat.le_of_ble_eq_true rfl⟩ (by assumption) (Nat.le_of_ble_eq_true rfl) ?_
          refine c_X0_leaderOf ch hs1 hk1 ?_
          refine ok_iret dX4_leader_46 rfl rfl ⟨Nat.le_of_ble_eq_true rfl, Nat.le_of_ble_eq_true rfl⟩ ?_
          exact k h1 f1 I1
        · cases c2
      · rw [if_neg (by rw [w j q1]; decide)] at k
        refine ok_astore_n dX4_leader_14 (st_3_2 rfl) (Nat.le_of_ble_eq_true rfl) rfl ?_
        refine ok_aload_n dX4_leader_15 rfl rfl ?_
        refine ok_ifnonnull (tgt := 27) dX4_leader_16 (by decide) rfl (fun c2 => ?_) (fun c2 => ?_)
        · exact absurd rfl c2
        · refine ok_aload_n dX4_leader_19 rfl rfl ?_
          refine ok_iconst (v := nI 1) dX4_leader_20 (by decide) ?_
          refine call_X4_found dX4_leader_21 lk_X4_62 ⟨Nat.le_of_ble_eq_true rfl, Nat.le_of_ble_eq_true rfl, Nat.le_of_ble_eq_true rfl⟩ (by assumption) (Nat.le_of_ble_eq_true rfl) ?_
          refine c_X4_found I (by decide) (fun h' x' I' => ?_)
          refine ok_goto (tgt := 46) dX4_leader_24 (by decide) ?_
          refine ok_iret dX4_leader_46 rfl rfl ⟨Nat.le_of_ble_eq_true rfl, Nat.le_of_ble_eq_true rfl⟩ ?_
          exact k h' (x'.w.f (by decide)) I'
    · exact absurd c1 (by decide)
  · rw [q] at k
    refine okN_if_ne (tgt := 9) dX4_leader_4 (by decide) (by omega) (fun c1 => ?_) (fun c1 => ?_)
    · exact absurd c1 (by decide)
    · refine ok_iconst (v := -1) dX4_leader_7 (by decide) ?_
      refine ok_iret dX4_leader_8 rfl rfl ⟨Nat.le_of_ble_eq_true rfl, Nat.le_of_ble_eq_true rfl⟩ ?_
      exact k h fX.rf I
theorem p_X4_from {p : Int32} (I : IX h S) (h64 : 64 ≤ h.1) (k : ∀ h', fX h h' → IX h' (sp_from S p).2 → Q (some (.int (sp_from S p).1)) h') : Ok g MX4_from (m_J g MX4_from Q) 0 [some (.ref 0), some (.int p), none] [] h 0 0 := by
  have e0 := I.1
  have hr := I.2.1
  unfold sp_from ofp at k
  refine ok_iload_n dX4_from_0 rfl ?_
  refine call_X4_isPlace dX4_from_1 lk_X4_51 ⟨Nat.le_of_ble_eq_true rfl, Nat.le_of_ble_eq_true rfl, Nat.le_of_ble_eq_true rfl⟩ (Nat.le_of_ble_eq_true rfl) ?_
  refine c_X4_isPlace (fun j q1 q2 q3 => ?_) (fun q => ?_)
  · rw [q1] at k
    dsimp only at k
    refine okN_if_ne (tgt := 9) dX4_from_4 (by decide) (by omega) (fun c1 => ?_) (fun c1 => ?_)
    · refine ok_aload_n dX4_from_9 rfl rfl ?_
      refine ok_iload_n dX4_from_10 rfl ?_
      refine call_X4_rowAt dX4_from_11 lk_X4_58 ⟨Nat.le_of_ble_eq_true rfl, Nat.le_of_ble_eq_true rfl, Nat.le_of_ble_eq_true rfl⟩ (by assumption) (Nat.le_of_ble_eq_true rfl) ?_
      refine c_X4_rowAt I (fun j' w1 w2 w3 => ?_) (fun w => ?_)
      · have ej : j' = j := by rw [q1] at w1; exact (Option.some.inj w1).symm
        subst ej
        rw [if_pos w3] at k
        obtain ⟨ol, rr⟩ := I.2.2.2.2.2.2.2.2.2.2.row q2 w3
        have er := rr.1
        have ls := I.2.2.2.2.2.1
        have els := ls.1
        have hsum := ol.2.2
        have hlen := ol.len
        refine ok_astore_n dX4_from_14 (st_3_2 rfl) (Nat.le_of_ble_eq_true rfl) rfl ?_
        refine ok_aload_n dX4_from_15 rfl rfl ?_
        refine ok_ifnonnull (tgt := 27) dX4_from_16 (by decide) rfl (fun c2 => ?_) (fun c2 => ?_)
        · refine ok_aload_n dX4_from_27 rfl rfl ?_
          refine ok_aload_n dX4_from_28 rfl rfl ?_
          refine ok_get dX4_from_29 fl_X4_90 (by assumption) (by rfl) ?_
          refine call_X4_chartOf dX4_from_32 lk_X4_96 ⟨Nat.le_of_ble_eq_true rfl, Nat.le_of_ble_eq_true rfl, Nat.le_of_ble_eq_true rfl⟩ (by assumption) (Nat.le_of_ble_eq_true rfl) ?_
          refine c_X4_chartOf I (by omega) h64 (fun h1 qc f1 I1 ch => ?_)
          obtain ⟨ol1, rr1⟩ := I1.2.2.2.2.2.2.2.2.2.2.row q2 w3
          have er1 := rr1.1
          have e01 := I1.1
          have ls1 := I1.2.2.2.2.2.1
          have els1 := ls1.1
          have ec1 := ch.1
          obtain ⟨hs1, hk1⟩ := nb_NN ol hr
          refine ok_aload_n dX4_from_35 rfl rfl ?_
          refine ok_get dX4_from_36 fl_X4_26 (by assumption) (by rfl) ?_
          refine ok_aload_n dX4_from_39 rfl rfl ?_
          refine call_X1_numberOf dX4_from_40 lk_X4_100 ⟨Nat.le_of_ble_eq_true rfl, Nat.le_of_ble_eq_true rfl, Nat.le_of_ble_eq_true rfl⟩ (by assumption) (Nat.le_of_ble_eq_true rfl) ?_
          refine c_X1_numberOf ls1 rr1 ol ?_
          dsimp only [m_push]
          refine call_X0_comersTo dX4_from_43 lk_X4_150 ⟨Nat.le_of_ble_eq_true rfl, Nat.le_of_ble_eq_true rfl, Nat.le_of_ble_eq_true rfl⟩ (by assumption) (Nat.le_of_ble_eq_true rfl) ?_
          refine c_X0_comersTo ch hs1 hk1 ?_
          refine ok_iret dX4_from_46 rfl rfl ⟨Nat.le_of_ble_eq_true rfl, Nat.le_of_ble_eq_true rfl⟩ ?_
          exact k h1 f1 I1
        · cases c2
      · rw [if_neg (by rw [w j q1]; decide)] at k
        refine ok_astore_n dX4_from_14 (st_3_2 rfl) (Nat.le_of_ble_eq_true rfl) rfl ?_
        refine ok_aload_n dX4_from_15 rfl rfl ?_
        refine ok_ifnonnull (tgt := 27) dX4_from_16 (by decide) rfl (fun c2 => ?_) (fun c2 => ?_)
        · exact absurd rfl c2
        · refine ok_aload_n dX4_from_19 rfl rfl ?_
          refine ok_iconst (v := nI 1) dX4_from_20 (by decide) ?_
          refine call_X4_found dX4_from_21 lk_X4_62 ⟨Nat.le_of_ble_eq_true rfl, Nat.le_of_ble_eq_true rfl, Nat.le_of_ble_eq_true rfl⟩ (by assumption) (Nat.le_of_ble_eq_true rfl) ?_
          refine c_X4_found I (by decide) (fun h' x' I' => ?_)
          refine ok_goto (tgt := 46) dX4_from_24 (by decide) ?_
          refine ok_iret dX4_from_46 rfl rfl ⟨Nat.le_of_ble_eq_true rfl, Nat.le_of_ble_eq_true rfl⟩ ?_
          exact k h' (x'.w.f (by decide)) I'
    · exact absurd c1 (by decide)
  · rw [q] at k
    refine okN_if_ne (tgt := 9) dX4_from_4 (by decide) (by omega) (fun c1 => ?_) (fun c1 => ?_)
    · exact absurd c1 (by decide)
    · refine ok_iconst (v := -1) dX4_from_7 (by decide) ?_
      refine ok_iret dX4_from_8 rfl rfl ⟨Nat.le_of_ble_eq_true rfl, Nat.le_of_ble_eq_true rfl⟩ ?_
      exact k h fX.rf I
theorem p_X4_fromAt {p i : Int32} (I : IX h S) (h64 : 64 ≤ h.1) (k : ∀ h', fX h h' → IX h' (sp_fromAt S p i).2 → Q (some (.int (sp_fromAt S p i).1)) h') : Ok g MX4_fromAt (m_J g MX4_fromAt Q) 0 [some (.ref 0), some (.int p), some (.int i), none] [] h 0 0 := by
  have e0 := I.1
  have hr := I.2.1
  unfold sp_fromAt ofp at k
  refine ok_iload_n dX4_fromAt_0 rfl ?_
  refine call_X4_isPlace dX4_fromAt_1 lk_X4_51 ⟨Nat.le_of_ble_eq_true rfl, Nat.le_of_ble_eq_true rfl, Nat.le_of_ble_eq_true rfl⟩ (Nat.le_of_ble_eq_true rfl) ?_
  refine c_X4_isPlace (fun j q1 q2 q3 => ?_) (fun q => ?_)
  · rw [q1] at k
    dsimp only at k
    refine okN_if_ne (tgt := 9) dX4_fromAt_4 (by decide) (by omega) (fun c1 => ?_) (fun c1 => ?_)
    · refine ok_aload_n dX4_fromAt_9 rfl rfl ?_
      refine ok_iload_n dX4_fromAt_10 rfl ?_
      refine call_X4_rowAt dX4_fromAt_11 lk_X4_58 ⟨Nat.le_of_ble_eq_true rfl, Nat.le_of_ble_eq_true rfl, Nat.le_of_ble_eq_true rfl⟩ (by assumption) (Nat.le_of_ble_eq_true rfl) ?_
      refine c_X4_rowAt I (fun j' w1 w2 w3 => ?_) (fun w => ?_)
      · have ej : j' = j := by rw [q1] at w1; exact (Option.some.inj w1).symm
        subst ej
        rw [if_pos w3] at k
        obtain ⟨ol, rr⟩ := I.2.2.2.2.2.2.2.2.2.2.row q2 w3
        have er := rr.1
        have ls := I.2.2.2.2.2.1
        have els := ls.1
        have hsum := ol.2.2
        have hlen := ol.len
        refine ok_astore_n dX4_fromAt_14 (st_4_3 rfl) (Nat.le_of_ble_eq_true rfl) rfl ?_
        refine ok_aload_n dX4_fromAt_15 rfl rfl ?_
        refine ok_ifnonnull (tgt := 27) dX4_fromAt_16 (by decide) rfl (fun c2 => ?_) (fun c2 => ?_)
        · refine ok_aload_n dX4_fromAt_27 rfl rfl ?_
          refine ok_aload_n dX4_fromAt_28 rfl rfl ?_
          refine ok_get dX4_fromAt_29 fl_X4_90 (by assumption) (by rfl) ?_
          refine call_X4_chartOf dX4_fromAt_32 lk_X4_96 ⟨Nat.le_of_ble_eq_true rfl, Nat.le_of_ble_eq_true rfl, Nat.le_of_ble_eq_true rfl⟩ (by assumption) (Nat.le_of_ble_eq_true rfl) ?_
          refine c_X4_chartOf I (by omega) h64 (fun h1 qc f1 I1 ch => ?_)
          obtain ⟨ol1, rr1⟩ := I1.2.2.2.2.2.2.2.2.2.2.row q2 w3
          have er1 := rr1.1
          have e01 := I1.1
          have ls1 := I1.2.2.2.2.2.1
          have els1 := ls1.1
          have ec1 := ch.1
          obtain ⟨hs1, hk1⟩ := nb_NN ol hr
          refine ok_aload_n dX4_fromAt_35 rfl rfl ?_
          refine ok_get dX4_fromAt_36 fl_X4_26 (by assumption) (by rfl) ?_
          refine ok_aload_n dX4_fromAt_39 rfl rfl ?_
          refine call_X1_numberOf dX4_fromAt_40 lk_X4_100 ⟨Nat.le_of_ble_eq_true rfl, Nat.le_of_ble_eq_true rfl, Nat.le_of_ble_eq_true rfl⟩ (by assumption) (Nat.le_of_ble_eq_true rfl) ?_
          refine c_X1_numberOf ls1 rr1 ol ?_
          dsimp only [m_push]
          refine ok_iload_n dX4_fromAt_43 rfl ?_
          refine call_X0_comerTo dX4_fromAt_44 lk_X4_153 ⟨Nat.le_of_ble_eq_true rfl, Nat.le_of_ble_eq_true rfl, Nat.le_of_ble_eq_true rfl⟩ (by assumption) (Nat.le_of_ble_eq_true rfl) ?_
          refine c_X0_comerTo ch hs1 hk1 ?_
          refine ok_iret dX4_fromAt_47 rfl rfl ⟨Nat.le_of_ble_eq_true rfl, Nat.le_of_ble_eq_true rfl⟩ ?_
          exact k h1 f1 I1
        · cases c2
      · rw [if_neg (by rw [w j q1]; decide)] at k
        refine ok_astore_n dX4_fromAt_14 (st_4_3 rfl) (Nat.le_of_ble_eq_true rfl) rfl ?_
        refine ok_aload_n dX4_fromAt_15 rfl rfl ?_
        refine ok_ifnonnull (tgt := 27) dX4_fromAt_16 (by decide) rfl (fun c2 => ?_) (fun c2 => ?_)
        · exact absurd rfl c2
        · refine ok_aload_n dX4_fromAt_19 rfl rfl ?_
          refine ok_iconst (v := nI 1) dX4_fromAt_20 (by decide) ?_
          refine call_X4_found dX4_fromAt_21 lk_X4_62 ⟨Nat.le_of_ble_eq_true rfl, Nat.le_of_ble_eq_true rfl, Nat.le_of_ble_eq_true rfl⟩ (by assumption) (Nat.le_of_ble_eq_true rfl) ?_
          refine c_X4_found I (by decide) (fun h' x' I' => ?_)
          refine ok_goto (tgt := 47) dX4_fromAt_24 (by decide) ?_
          refine ok_iret dX4_fromAt_47 rfl rfl ⟨Nat.le_of_ble_eq_true rfl, Nat.le_of_ble_eq_true rfl⟩ ?_
          exact k h' (x'.w.f (by decide)) I'
    · exact absurd c1 (by decide)
  · rw [q] at k
    refine okN_if_ne (tgt := 9) dX4_fromAt_4 (by decide) (by omega) (fun c1 => ?_) (fun c1 => ?_)
    · exact absurd c1 (by decide)
    · refine ok_iconst (v := -1) dX4_fromAt_7 (by decide) ?_
      refine ok_iret dX4_fromAt_8 rfl rfl ⟨Nat.le_of_ble_eq_true rfl, Nat.le_of_ble_eq_true rfl⟩ ?_
      exact k h fX.rf I
theorem p_X4_at {p i : Int32} (I : IX h S) (h64 : 64 ≤ h.1) (k : ∀ h', fX h h' → IX h' (sp_at S p i).2 → Q (some (.int (sp_at S p i).1)) h') : Ok g MX4_at (m_J g MX4_at Q) 0 [some (.ref 0), some (.int p), some (.int i), none] [] h 0 0 := by
  have e0 := I.1
  have hr := I.2.1
  unfold sp_at ofp at k
  refine ok_iload_n dX4_at_0 rfl ?_
  refine call_X4_isPlace dX4_at_1 lk_X4_51 ⟨Nat.le_of_ble_eq_true rfl, Nat.le_of_ble_eq_true rfl, Nat.le_of_ble_eq_true rfl⟩ (Nat.le_of_ble_eq_true rfl) ?_
  refine c_X4_isPlace (fun j q1 q2 q3 => ?_) (fun q => ?_)
  · rw [q1] at k
    dsimp only at k
    refine okN_if_ne (tgt := 9) dX4_at_4 (by decide) (by omega) (fun c1 => ?_) (fun c1 => ?_)
    · refine ok_aload_n dX4_at_9 rfl rfl ?_
      refine ok_iload_n dX4_at_10 rfl ?_
      refine call_X4_rowAt dX4_at_11 lk_X4_58 ⟨Nat.le_of_ble_eq_true rfl, Nat.le_of_ble_eq_true rfl, Nat.le_of_ble_eq_true rfl⟩ (by assumption) (Nat.le_of_ble_eq_true rfl) ?_
      refine c_X4_rowAt I (fun j' w1 w2 w3 => ?_) (fun w => ?_)
      · have ej : j' = j := by rw [q1] at w1; exact (Option.some.inj w1).symm
        subst ej
        rw [if_pos w3] at k
        obtain ⟨ol, rr⟩ := I.2.2.2.2.2.2.2.2.2.2.row q2 w3
        have er := rr.1
        have ls := I.2.2.2.2.2.1
        have els := ls.1
        have hsum := ol.2.2
        have hlen := ol.len
        refine ok_astore_n dX4_at_14 (st_4_3 rfl) (Nat.le_of_ble_eq_true rfl) rfl ?_
        refine ok_aload_n dX4_at_15 rfl rfl ?_
        refine ok_ifnonnull (tgt := 25) dX4_at_16 (by decide) rfl (fun c2 => ?_) (fun c2 => ?_)
        · refine ok_iload_n dX4_at_25 rfl ?_
          refine ok_iconst (v := -1) dX4_at_26 (by decide) ?_
          refine ok_icmp_ne (tgt := 35) dX4_at_27 (by decide) (fun c3 => ?_) (fun c3 => ?_)
          · rw [if_neg c3] at k
            refine ok_aload_n dX4_at_35 rfl rfl ?_
            refine ok_iload_n dX4_at_36 rfl ?_
            refine call_X3_has dX4_at_37 lk_X4_77 ⟨Nat.le_of_ble_eq_true rfl, Nat.le_of_ble_eq_true rfl, Nat.le_of_ble_eq_true rfl⟩ (by assumption) (Nat.le_of_ble_eq_true rfl) ?_
            refine c_X3_has er hlen (fun x y1 y2 y3 => ?_) (fun y => ?_)
            · rw [y1] at k
              dsimp only at k
              subst y3
              refine okN_if_eq (tgt := 51) dX4_at_40 (by decide) (by omega) (fun c4 => ?_) (fun c4 => ?_)
              · exact absurd c4 (by decide)
              · refine ok_aload_n dX4_at_43 rfl rfl ?_
                refine ok_iload_n dX4_at_44 rfl ?_
                refine call_X3_heapAt dX4_at_45 lk_X4_80 ⟨Nat.le_of_ble_eq_true rfl, Nat.le_of_ble_eq_true rfl, Nat.le_of_ble_eq_true rfl⟩ (by assumption) (Nat.le_of_ble_eq_true rfl) ?_
                refine c_X3_heapN rr ol y2 ?_
                refine ok_goto (tgt := 56) dX4_at_48 (by decide) ?_
                refine ok_iret dX4_at_56 rfl rfl ⟨Nat.le_of_ble_eq_true rfl, Nat.le_of_ble_eq_true rfl⟩ ?_
                exact k h fX.rf I
            · rw [y] at k
              dsimp only at k
              refine okN_if_eq (tgt := 51) dX4_at_40 (by decide) (by omega) (fun c4 => ?_) (fun c4 => ?_)
              · refine ok_aload_n dX4_at_51 rfl rfl ?_
                refine ok_iconst (v := nI 2) dX4_at_52 (by decide) ?_
                refine call_X4_found dX4_at_53 lk_X4_62 ⟨Nat.le_of_ble_eq_true rfl, Nat.le_of_ble_eq_true rfl, Nat.le_of_ble_eq_true rfl⟩ (by assumption) (Nat.le_of_ble_eq_true rfl) ?_
                refine c_X4_found I (by decide) (fun h' x' I' => ?_)
                refine ok_iret dX4_at_56 rfl rfl ⟨Nat.le_of_ble_eq_true rfl, Nat.le_of_ble_eq_true rfl⟩ ?_
                exact k h' (x'.w.f (by decide)) I'
              · exact absurd c4 (by decide)
          · rw [if_pos c3] at k
            refine ok_aload_n dX4_at_30 rfl rfl ?_
            refine ok_get dX4_at_31 fl_X4_73 (by assumption) (by rfl) ?_
            refine ok_iret dX4_at_34 rfl rfl ⟨Nat.le_of_ble_eq_true rfl, Nat.le_of_ble_eq_true rfl⟩ ?_
            exact k h fX.rf I
        · cases c2
      · rw [if_neg (by rw [w j q1]; decide)] at k
        refine ok_astore_n dX4_at_14 (st_4_3 rfl) (Nat.le_of_ble_eq_true rfl) rfl ?_
        refine ok_aload_n dX4_at_15 rfl rfl ?_
        refine ok_ifnonnull (tgt := 25) dX4_at_16 (by decide) rfl (fun c2 => ?_) (fun c2 => ?_)
        · exact absurd rfl c2
        · refine ok_aload_n dX4_at_19 rfl rfl ?_
          refine ok_iconst (v := nI 1) dX4_at_20 (by decide) ?_
          refine call_X4_found dX4_at_21 lk_X4_62 ⟨Nat.le_of_ble_eq_true rfl, Nat.le_of_ble_eq_true rfl, Nat.le_of_ble_eq_true rfl⟩ (by assumption) (Nat.le_of_ble_eq_true rfl) ?_
          refine c_X4_found I (by decide) (fun h' x' I' => ?_)
          refine ok_iret dX4_at_24 rfl rfl ⟨Nat.le_of_ble_eq_true rfl, Nat.le_of_ble_eq_true rfl⟩ ?_
          exact k h' (x'.w.f (by decide)) I'
    · exact absurd c1 (by decide)
  · rw [q] at k
    refine okN_if_ne (tgt := 9) dX4_at_4 (by decide) (by omega) (fun c1 => ?_) (fun c1 => ?_)
    · exact absurd c1 (by decide)
    · refine ok_iconst (v := -1) dX4_at_7 (by decide) ?_
      refine ok_iret dX4_at_8 rfl rfl ⟨Nat.le_of_ble_eq_true rfl, Nat.le_of_ble_eq_true rfl⟩ ?_
      exact k h fX.rf I
theorem p_X4_take {p i : Int32} (I : IX h S) (h64 : 64 ≤ h.1) (k : ∀ h', fX h h' → IX h' (sp_take S p i).2 → Q (some (.int (sp_take S p i).1)) h') : Ok g MX4_take (m_J g MX4_take Q) 0 [some (.ref 0), some (.int p), some (.int i), none] [] h 0 0 := by
  have e0 := I.1
  have hr := I.2.1
  unfold sp_take ofp at k
  refine ok_iload_n dX4_take_0 rfl ?_
  refine call_X4_isPlace dX4_take_1 lk_X4_51 ⟨Nat.le_of_ble_eq_true rfl, Nat.le_of_ble_eq_true rfl, Nat.le_of_ble_eq_true rfl⟩ (Nat.le_of_ble_eq_true rfl) ?_
  refine c_X4_isPlace (fun j q1 q2 q3 => ?_) (fun q => ?_)
  · rw [q1] at k
    dsimp only at k
    refine okN_if_ne (tgt := 9) dX4_take_4 (by decide) (by omega) (fun c1 => ?_) (fun c1 => ?_)
    · refine ok_aload_n dX4_take_9 rfl rfl ?_
      refine ok_iload_n dX4_take_10 rfl ?_
      refine call_X4_rowAt dX4_take_11 lk_X4_58 ⟨Nat.le_of_ble_eq_true rfl, Nat.le_of_ble_eq_true rfl, Nat.le_of_ble_eq_true rfl⟩ (by assumption) (Nat.le_of_ble_eq_true rfl) ?_
      refine c_X4_rowAt I (fun j' w1 w2 w3 => ?_) (fun w => ?_)
      · have ej : j' = j := by rw [q1] at w1; exact (Option.some.inj w1).symm
        subst ej
        rw [if_pos w3] at k
        obtain ⟨ol, rr⟩ := I.2.2.2.2.2.2.2.2.2.2.row q2 w3
        have er := rr.1
        have ls := I.2.2.2.2.2.1
        have els := ls.1
        have hsum := ol.2.2
        have hlen := ol.len
        refine ok_astore_n dX4_take_14 (st_4_3 rfl) (Nat.le_of_ble_eq_true rfl) rfl ?_
        refine ok_aload_n dX4_take_15 rfl rfl ?_
        refine ok_ifnonnull (tgt := 25) dX4_take_16 (by decide) rfl (fun c2 => ?_) (fun c2 => ?_)
        · refine ok_aload_n dX4_take_25 rfl rfl ?_
          refine ok_iload_n dX4_take_26 rfl ?_
          refine call_X3_has dX4_take_27 lk_X4_77 ⟨Nat.le_of_ble_eq_true rfl, Nat.le_of_ble_eq_true rfl, Nat.le_of_ble_eq_true rfl⟩ (by assumption) (Nat.le_of_ble_eq_true rfl) ?_
          refine c_X3_has er hlen (fun x y1 y2 y3 => ?_) (fun y => ?_)
          · rw [y1] at k
            dsimp only at k
            subst y3
            refine okN_if_eq (tgt := 41) dX4_take_30 (by decide) (by omega) (fun c4 => ?_) (fun c4 => ?_)
            · exact absurd c4 (by decide)
            · refine ok_aload_n dX4_take_33 rfl rfl ?_
              refine ok_iload_n dX4_take_34 rfl ?_
              refine call_X3_drop dX4_take_35 lk_X4_83 ⟨Nat.le_of_ble_eq_true rfl, Nat.le_of_ble_eq_true rfl, Nat.le_of_ble_eq_true rfl⟩ (by assumption) (Nat.le_of_ble_eq_true rfl) ?_
              refine c_X3_drop rr (by omega) ol y2 (fun h1 x1 r1 => ?_)
              refine ok_goto (tgt := 46) dX4_take_38 (by decide) ?_
              refine ok_iret dX4_take_46 rfl rfl ⟨Nat.le_of_ble_eq_true rfl, Nat.le_of_ble_eq_true rfl⟩ ?_
              exact k h1 (x1.w.f (by simp <;> omega)) (I.setP q2 w3 x1 (okl_del ol y2) r1)
          · rw [y] at k
            dsimp only at k
            refine okN_if_eq (tgt := 41) dX4_take_30 (by decide) (by omega) (fun c4 => ?_) (fun c4 => ?_)
            · refine ok_aload_n dX4_take_41 rfl rfl ?_
              refine ok_iconst (v := nI 2) dX4_take_42 (by decide) ?_
              refine call_X4_found dX4_take_43 lk_X4_62 ⟨Nat.le_of_ble_eq_true rfl, Nat.le_of_ble_eq_true rfl, Nat.le_of_ble_eq_true rfl⟩ (by assumption) (Nat.le_of_ble_eq_true rfl) ?_
              refine c_X4_found I (by decide) (fun h' x' I' => ?_)
              refine ok_iret dX4_take_46 rfl rfl ⟨Nat.le_of_ble_eq_true rfl, Nat.le_of_ble_eq_true rfl⟩ ?_
              exact k h' (x'.w.f (by decide)) I'
            · exact absurd c4 (by decide)
        · cases c2
      · rw [if_neg (by rw [w j q1]; decide)] at k
        refine ok_astore_n dX4_take_14 (st_4_3 rfl) (Nat.le_of_ble_eq_true rfl) rfl ?_
        refine ok_aload_n dX4_take_15 rfl rfl ?_
        refine ok_ifnonnull (tgt := 25) dX4_take_16 (by decide) rfl (fun c2 => ?_) (fun c2 => ?_)
        · exact absurd rfl c2
        · refine ok_aload_n dX4_take_19 rfl rfl ?_
          refine ok_iconst (v := nI 1) dX4_take_20 (by decide) ?_
          refine call_X4_found dX4_take_21 lk_X4_62 ⟨Nat.le_of_ble_eq_true rfl, Nat.le_of_ble_eq_true rfl, Nat.le_of_ble_eq_true rfl⟩ (by assumption) (Nat.le_of_ble_eq_true rfl) ?_
          refine c_X4_found I (by decide) (fun h' x' I' => ?_)
          refine ok_iret dX4_take_24 rfl rfl ⟨Nat.le_of_ble_eq_true rfl, Nat.le_of_ble_eq_true rfl⟩ ?_
          exact k h' (x'.w.f (by decide)) I'
    · exact absurd c1 (by decide)
  · rw [q] at k
    refine okN_if_ne (tgt := 9) dX4_take_4 (by decide) (by omega) (fun c1 => ?_) (fun c1 => ?_)
    · exact absurd c1 (by decide)
    · refine ok_iconst (v := -1) dX4_take_7 (by decide) ?_
      refine ok_iret dX4_take_8 rfl rfl ⟨Nat.le_of_ble_eq_true rfl, Nat.le_of_ble_eq_true rfl⟩ ?_
      exact k h fX.rf I
end PUB1
