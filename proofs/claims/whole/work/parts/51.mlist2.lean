/-! ===== the second program's calls on the list ===== -/
section MLIST2
variable {g : mG} {h : mH} {Q : Option Value → mH → Prop} {S : ST} {sz lz : Nat} {li kd : Int32} {fi : Nat} {wk : Int64} {ru : Nat}
theorem c_X5_rankOf {p : Nat} (I : MI h S sz li lz kd) (hp : p < 12) (ht : S.1 p = true) (k : ∀ h', hx [46, 51, 52, 53] h h' → MI h' S (S.2.1 p).length (nI (S.2.1 p).sum) (cap (S.2.1 p).sum (S.2.1 p).sum) kd → Rm h' (S.2.1 p) → Q (some (.int (nI (nb (S.2.1 p))))) h') : Ok g MX5_rankOf (m_J g MX5_rankOf Q) 0 [some (.ref 46), some (.int (nI p))] [] h 0 0 := by
  have e0 := I.1
  have ol := I.2.2.2.2.2.2.1 p hp ht
  have hs := ol.2.2
  refine ok_aload_n dX5_rankOf_0 rfl rfl ?_
  refine ok_aload_n dX5_rankOf_1 rfl rfl ?_
  refine ok_iload_n dX5_rankOf_2 rfl ?_
  refine call_X5_cards dX5_rankOf_3 lk_X5_84 ⟨Nat.le_of_ble_eq_true rfl, Nat.le_of_ble_eq_true rfl, Nat.le_of_ble_eq_true rfl⟩ (by assumption) (Nat.le_of_ble_eq_true rfl) ?_
  refine c_X5_cards I hp ht ?_
  dsimp only [m_push]
  refine call_X5_setList dX5_rankOf_6 lk_X5_114 ⟨Nat.le_of_ble_eq_true rfl, Nat.le_of_ble_eq_true rfl, Nat.le_of_ble_eq_true rfl⟩ (by assumption) (Nat.le_of_ble_eq_true rfl) ?_
  refine c_X5_setList I (by omega) (fun h1 s1 x1 I1 => ?_)
  have e01 := I1.1
  refine ok_aload_n dX5_rankOf_9 rfl rfl ?_
  refine ok_iload_n dX5_rankOf_10 rfl ?_
  refine call_X5_load dX5_rankOf_11 lk_X5_118 ⟨Nat.le_of_ble_eq_true rfl, Nat.le_of_ble_eq_true rfl, Nat.le_of_ble_eq_true rfl⟩ (by assumption) (Nat.le_of_ble_eq_true rfl) ?_
  refine c_X5_load I1 hp ht (fun h2 x2 I2 R2 => ?_)
  have e02 := I2.1
  obtain ⟨-, L2⟩ := I2.lst (n := (S.2.1 p).sum) (by omega)
  refine ok_aload_n dX5_rankOf_14 rfl rfl ?_
  refine call_X5_rankRow dX5_rankOf_15 lk_X5_121 ⟨Nat.le_of_ble_eq_true rfl, Nat.le_of_ble_eq_true rfl, Nat.le_of_ble_eq_true rfl⟩ (by assumption) (Nat.le_of_ble_eq_true rfl) ?_
  refine c_X5_rankRow ol (by omega) rfl e02 R2 L2 ?_
  refine ok_iret dX5_rankOf_18 rfl rfl ⟨Nat.le_of_ble_eq_true rfl, Nat.le_of_ble_eq_true rfl⟩ ?_
  exact k h2 (x1.tr x2 (by simp) (by simp)) I2 R2
theorem p_X5_many {n : Int32} (I : IM h S) (k : ∀ h', fM h h' → IM h' (sp_many S n).2 → Q (some (.int (sp_many S n).1)) h') : Ok g MX5_many (m_J g MX5_many Q) 0 [some (.ref 46), some (.int n)] [] h 0 0 := by
  obtain ⟨sz, li, lz, kd, I⟩ := I
  have e0 := I.1
  unfold sp_many at k
  refine ok_iload_n dX5_many_0 rfl ?_
  refine ok_iconst (v := nI 0) dX5_many_1 (by decide) ?_
  refine ok_bipush (v := nI 18) dX5_many_2 (by decide) ?_
  refine call_X5_in dX5_many_4 lk_X5_69 ⟨Nat.le_of_ble_eq_true rfl, Nat.le_of_ble_eq_true rfl, Nat.le_of_ble_eq_true rfl⟩ (Nat.le_of_ble_eq_true rfl) ?_
  refine c_X5_inP (n := 19) (by decide) (by decide) (fun j q1 q2 q3 => ?_) (fun q => ?_)
  · rw [q1] at k
    dsimp only at k
    subst q3
    refine okN_if_ne (tgt := 12) dX5_many_7 (by decide) (by omega) (fun c1 => ?_) (fun c1 => ?_)
    · refine ok_aload_n dX5_many_12 rfl rfl ?_
      refine ok_iload_n dX5_many_13 rfl ?_
      refine call_X5_setList dX5_many_14 lk_X5_114 ⟨Nat.le_of_ble_eq_true rfl, Nat.le_of_ble_eq_true rfl, Nat.le_of_ble_eq_true rfl⟩ (by assumption) (Nat.le_of_ble_eq_true rfl) ?_
      refine c_X5_setList I q2 (fun h1 s1 x1 I1 => ?_)
      have e01 := I1.1
      refine ok_aload_n dX5_many_17 rfl rfl ?_
      refine ok_get dX5_many_18 fl_X5_104 (by assumption) (by rfl) ?_
      refine ok_iret dX5_many_21 rfl rfl ⟨Nat.le_of_ble_eq_true rfl, Nat.le_of_ble_eq_true rfl⟩ ?_
      exact k h1 (x1.m (by decide)) ⟨_, _, _, _, I1⟩
    · exact absurd c1 (by decide)
  · rw [q] at k
    refine okN_if_ne (tgt := 12) dX5_many_7 (by decide) (by omega) (fun c1 => ?_) (fun c1 => ?_)
    · exact absurd c1 (by decide)
    · refine ok_iconst (v := -1) dX5_many_10 (by decide) ?_
      refine ok_iret dX5_many_11 rfl rfl ⟨Nat.le_of_ble_eq_true rfl, Nat.le_of_ble_eq_true rfl⟩ ?_
      exact k h fM.rf ⟨_, _, _, _, I⟩
theorem p_X5_rank {p : Int32} (I : IM h S) (k : ∀ h', fM h h' → IM h' (sp_rank S p).2 → Q (some (.int (sp_rank S p).1)) h') : Ok g MX5_rank (m_J g MX5_rank Q) 0 [some (.ref 46), some (.int p), none] [] h 0 0 := by
  obtain ⟨sz, li, lz, kd, I⟩ := I
  have e0 := I.1
  unfold sp_rank ofp at k
  refine ok_aload_n dX5_rank_0 rfl rfl ?_
  refine ok_iload_n dX5_rank_1 rfl ?_
  refine call_X5_looked dX5_rank_2 lk_X5_81 ⟨Nat.le_of_ble_eq_true rfl, Nat.le_of_ble_eq_true rfl, Nat.le_of_ble_eq_true rfl⟩ (by assumption) (Nat.le_of_ble_eq_true rfl) ?_
  refine c_X5_looked I (fun q => ?_) (fun j h' q1 q2 x' I' => ?_) (fun j q1 q2 q3 q4 => ?_)
  · rw [q] at k
    refine ok_istore_n dX5_rank_5 (st_3_2 rfl) (Nat.le_of_ble_eq_true rfl) ?_
    refine ok_iload_n dX5_rank_6 rfl ?_
    refine ok_if_ge (tgt := 14) dX5_rank_7 (by decide) (fun c2 => ?_) (fun c2 => ?_)
    · exact absurd c2 (by decide)
    · refine ok_iload_n dX5_rank_10 rfl ?_
      refine ok_goto (tgt := 19) dX5_rank_11 (by decide) ?_
      refine ok_iret dX5_rank_19 rfl rfl ⟨Nat.le_of_ble_eq_true rfl, Nat.le_of_ble_eq_true rfl⟩ ?_
      exact k h fM.rf ⟨_, _, _, _, I⟩
  · rw [q1] at k
    dsimp only at k
    rw [if_neg (by rw [q2]; decide)] at k
    refine ok_istore_n dX5_rank_5 (st_3_2 rfl) (Nat.le_of_ble_eq_true rfl) ?_
    refine ok_iload_n dX5_rank_6 rfl ?_
    refine ok_if_ge (tgt := 14) dX5_rank_7 (by decide) (fun c2 => ?_) (fun c2 => ?_)
    · exact absurd c2 (by decide)
    · refine ok_iload_n dX5_rank_10 rfl ?_
      refine ok_goto (tgt := 19) dX5_rank_11 (by decide) ?_
      refine ok_iret dX5_rank_19 rfl rfl ⟨Nat.le_of_ble_eq_true rfl, Nat.le_of_ble_eq_true rfl⟩ ?_
      exact k h' (x'.m (by decide)) ⟨_, _, _, _, I'⟩
  · rw [q1] at k
    dsimp only at k
    rw [if_pos q4] at k
    subst q3
    refine ok_istore_n dX5_rank_5 (st_3_2 rfl) (Nat.le_of_ble_eq_true rfl) ?_
    refine ok_iload_n dX5_rank_6 rfl ?_
    refine okN_if_ge (tgt := 14) dX5_rank_7 (by decide) (by omega) ?_
    refine ok_aload_n dX5_rank_14 rfl rfl ?_
    refine ok_iload_n dX5_rank_15 rfl ?_
    refine call_X5_rankOf dX5_rank_16 lk_X5_125 ⟨Nat.le_of_ble_eq_true rfl, Nat.le_of_ble_eq_true rfl, Nat.le_of_ble_eq_true rfl⟩ (by assumption) (Nat.le_of_ble_eq_true rfl) ?_
    refine c_X5_rankOf I q2 q4 (fun h1 x1 I1 R1 => ?_)
    refine ok_iret dX5_rank_19 rfl rfl ⟨Nat.le_of_ble_eq_true rfl, Nat.le_of_ble_eq_true rfl⟩ ?_
    exact k h1 (x1.m (by decide)) ⟨_, _, _, _, I1⟩
theorem p_X5_list {p n kk : Int32} (I : IM h S) (k : ∀ h', fM h h' → IM h' (sp_list S p n kk).2 → Q (some (.int (sp_list S p n kk).1)) h') : Ok g MX5_list (m_J g MX5_list Q) 0 [some (.ref 46), some (.int p), some (.int n), some (.int kk)] [] h 0 0 := by
  obtain ⟨sz, li, lz, kd, I⟩ := I
  have e0 := I.1
  unfold sp_list at k
  refine ok_iload_n dX5_list_0 rfl ?_
  refine call_X5_isParting dX5_list_1 lk_X5_73 ⟨Nat.le_of_ble_eq_true rfl, Nat.le_of_ble_eq_true rfl, Nat.le_of_ble_eq_true rfl⟩ (Nat.le_of_ble_eq_true rfl) ?_
  refine c_X5_isParting (fun j q1 q2 q3 => ?_) (fun q => ?_)
  · rw [q1] at k
    subst q3
    refine okN_if_eq (tgt := 17) dX5_list_4 (by decide) (by omega) (fun c1 => ?_) (fun c1 => ?_)
    · exact absurd c1 (by decide)
    · refine ok_iload_n dX5_list_7 rfl ?_
      refine ok_iconst (v := nI 0) dX5_list_8 (by decide) ?_
      refine ok_bipush (v := nI 18) dX5_list_9 (by decide) ?_
      refine call_X5_in dX5_list_11 lk_X5_69 ⟨Nat.le_of_ble_eq_true rfl, Nat.le_of_ble_eq_true rfl, Nat.le_of_ble_eq_true rfl⟩ (Nat.le_of_ble_eq_true rfl) ?_
      refine c_X5_inP (n := 19) (by decide) (by decide) (fun m p1 p2 p3 => ?_) (fun q => ?_)
      · rw [p1] at k
        dsimp only at k
        subst p3
        have cl := cap_lt p2 p2
        refine okN_if_ne (tgt := 19) dX5_list_14 (by decide) (by omega) (fun c2 => ?_) (fun c2 => ?_)
        · refine ok_aload_n dX5_list_19 rfl rfl ?_
          refine ok_iload_n dX5_list_20 rfl ?_
          refine call_X5_setList dX5_list_21 lk_X5_114 ⟨Nat.le_of_ble_eq_true rfl, Nat.le_of_ble_eq_true rfl, Nat.le_of_ble_eq_true rfl⟩ (by assumption) (Nat.le_of_ble_eq_true rfl) ?_
          refine c_X5_setList I p2 (fun h1 s1 x1 I1 => ?_)
          have e01 := I1.1
          refine ok_iload_n dX5_list_24 rfl ?_
          refine ok_iconst (v := nI 0) dX5_list_25 (by decide) ?_
          refine ok_aload_n dX5_list_26 rfl rfl ?_
          refine ok_get dX5_list_27 fl_X5_104 (by assumption) (by rfl) ?_
          refine ok_iconst (v := nI 1) dX5_list_30 (by decide) ?_
          refine ok_isub dX5_list_31 ?_
          refine call_X5_in dX5_list_32 lk_X5_69 ⟨Nat.le_of_ble_eq_true rfl, Nat.le_of_ble_eq_true rfl, Nat.le_of_ble_eq_true rfl⟩ (Nat.le_of_ble_eq_true rfl) ?_
          refine c_X5_inQ (n := cap m m) (by omega) (fun x z1 z2 z3 => ?_) (fun z => ?_)
          · rw [z1] at k
            dsimp only at k
            subst z3
            refine okN_if_ne (tgt := 41) dX5_list_35 (by decide) (by omega) (fun c3 => ?_) (fun c3 => ?_)
            · refine ok_aload_n dX5_list_41 rfl rfl ?_
              refine ok_iload_n dX5_list_42 rfl ?_
              refine call_X5_loadListed dX5_list_43 lk_X5_128 ⟨Nat.le_of_ble_eq_true rfl, Nat.le_of_ble_eq_true rfl, Nat.le_of_ble_eq_true rfl⟩ (by assumption) (Nat.le_of_ble_eq_true rfl) ?_
              obtain ⟨-, F52, F53, e52, e53, hL⟩ := I1.lst p2
              refine c_X5_loadListed e01 e52 e53 I1.2.2.2.2.2.1.2.1 hL p2 z2 (fun h2 x2 e02 R2 => ?_)
              have I2 := I1.set51 x2 e02 R2
              refine ok_aload_n dX5_list_46 rfl rfl ?_
              refine ok_iload_n dX5_list_47 rfl ?_
              refine call_X5_keep dX5_list_48 lk_X5_131 ⟨Nat.le_of_ble_eq_true rfl, Nat.le_of_ble_eq_true rfl, Nat.le_of_ble_eq_true rfl⟩ (by assumption) (Nat.le_of_ble_eq_true rfl) ?_
              refine c_X5_keep I2 R2 (wr_ok p2 z2) q2 (fun h3 x3 I3 => ?_)
              refine ok_iconst (v := nI 1) dX5_list_51 (by decide) ?_
              refine ok_iret dX5_list_52 rfl rfl ⟨Nat.le_of_ble_eq_true rfl, Nat.le_of_ble_eq_true rfl⟩ ?_
              exact k h3 ((x1.tr x2 (C := [46, 51, 52, 53]) (by simp) (by simp)).tr x3 (C := [46, 48, 49, 51, 52, 53]) (by simp) (by simp) |>.m (by decide)) ⟨_, _, _, _, I3⟩
            · exact absurd c3 (by decide)
          · rw [z] at k
            dsimp only at k
            refine okN_if_ne (tgt := 41) dX5_list_35 (by decide) (by omega) (fun c3 => ?_) (fun c3 => ?_)
            · exact absurd c3 (by decide)
            · refine ok_bipush (v := -9) dX5_list_38 (by decide) ?_
              refine ok_iret dX5_list_40 rfl rfl ⟨Nat.le_of_ble_eq_true rfl, Nat.le_of_ble_eq_true rfl⟩ ?_
              exact k h1 (x1.m (by decide)) ⟨_, _, _, _, I1⟩
        · exact absurd c2 (by decide)
      · rw [q] at k
        dsimp only at k
        refine okN_if_ne (tgt := 19) dX5_list_14 (by decide) (by omega) (fun c2 => ?_) (fun c2 => ?_)
        · exact absurd c2 (by decide)
        · refine ok_iconst (v := -1) dX5_list_17 (by decide) ?_
          refine ok_iret dX5_list_18 rfl rfl ⟨Nat.le_of_ble_eq_true rfl, Nat.le_of_ble_eq_true rfl⟩ ?_
          exact k h fM.rf ⟨_, _, _, _, I⟩
  · rw [q] at k
    dsimp only at k
    refine okN_if_eq (tgt := 17) dX5_list_4 (by decide) (by omega) (fun c1 => ?_) (fun c1 => ?_)
    · refine ok_iconst (v := -1) dX5_list_17 (by decide) ?_
      refine ok_iret dX5_list_18 rfl rfl ⟨Nat.le_of_ble_eq_true rfl, Nat.le_of_ble_eq_true rfl⟩ ?_
      exact k h fM.rf ⟨_, _, _, _, I⟩
    · exact absurd c1 (by decide)
theorem l_X5_step {p m : Nat} {v3 : Int32} {l : List Nat} (ol : okl l) (hp : p < 12) (ht : S.1 p = true) (hm : m < 2 ^ 31) (k : ∀ h', hx [46, 48, 49, 51] h h' → MI h' (s_P S p (stpN S.2.2.1 l m)) (stpN S.2.2.1 l m).length li lz kd → Q (some (.int (nI (stpN S.2.2.1 l m).length))) h') :
    ∀ (d i : Nat) (h1 : mH), i + d = m → hx [46, 51] h h1 → MI h1 S (stpN S.2.2.1 l i).length li lz kd → Rm h1 (stpN S.2.2.1 l i) → Ok g MX5_step (m_J g MX5_step Q) 33 [some (.ref 46), some (.int (nI p)), some (.int (nI m)), some (.int v3), some (.int (nI i))] [] h1 0 0 := by
  intro d
  induction d with
  | zero =>
    intro i h1 hi x1 I1 R1
    have ei : i = m := by omega
    subst ei
    have hr := I1.2.2.2.2.2.2.2
    have e01 := I1.1
    refine ok_iload dX5_step_33 rfl ?_
    refine ok_iload_n dX5_step_35 rfl ?_
    refine okN_icmp_ge (tgt := 49) dX5_step_36 (by decide) (by omega) (by omega) (fun c1 => ?_) (fun c1 => ?_)
    · refine ok_aload_n dX5_step_49 rfl rfl ?_
      refine ok_iload_n dX5_step_50 rfl ?_
      refine call_X5_keep dX5_step_51 lk_X5_131 ⟨Nat.le_of_ble_eq_true rfl, Nat.le_of_ble_eq_true rfl, Nat.le_of_ble_eq_true rfl⟩ (by assumption) (Nat.le_of_ble_eq_true rfl) ?_
      refine c_X5_keep I1 R1 (stpN_it hr ol i).1 hp (fun h2 x2 I2 => ?_)
      have e02 := I2.1
      refine ok_aload_n dX5_step_54 rfl rfl ?_
      refine ok_get dX5_step_55 fl_X5_94 (by assumption) (by rfl) ?_
      refine ok_iret dX5_step_58 rfl rfl ⟨Nat.le_of_ble_eq_true rfl, Nat.le_of_ble_eq_true rfl⟩ ?_
      rw [s_TP_P _ ht] at I2
      exact k h2 (x1.tr x2 (by simp) (by simp)) I2
    · exact absurd c1 (by omega)
  | succ d ih =>
    intro i h1 hi x1 I1 R1
    have hr := I1.2.2.2.2.2.2.2
    have e01 := I1.1
    refine ok_iload dX5_step_33 rfl ?_
    refine ok_iload_n dX5_step_35 rfl ?_
    refine okN_icmp_ge (tgt := 49) dX5_step_36 (by decide) (by omega) (by omega) (fun c1 => ?_) (fun c1 => ?_)
    · exact absurd c1 (by omega)
    · refine ok_aload_n dX5_step_39 rfl rfl ?_
      refine call_X5_goOn dX5_step_40 lk_X5_134 ⟨Nat.le_of_ble_eq_true rfl, Nat.le_of_ble_eq_true rfl, Nat.le_of_ble_eq_true rfl⟩ (by assumption) (Nat.le_of_ble_eq_true rfl) ?_
      refine c_X5_goOn e01 R1 (stpN_it hr ol i).1 hr (fun h2 x2 e02 R2 => ?_)
      refine okN_inc dX5_step_43 rfl (st_5_4 rfl) (Nat.le_of_ble_eq_true rfl) ?_
      refine ok_goto (tgt := 33) dX5_step_46 (by decide) ?_
      exact ih (i + 1) h2 (by omega) (x1.tr' x2) (I1.set51 x2 e02 R2) R2
theorem p_X5_step {p kk : Int32} (I : IM h S) (k : ∀ h', fM h h' → IM h' (sp_step S p kk).2 → Q (some (.int (sp_step S p kk).1)) h') : Ok g MX5_step (m_J g MX5_step Q) 0 [some (.ref 46), some (.int p), some (.int kk), none, none] [] h 0 0 := by
  obtain ⟨sz, li, lz, kd, I⟩ := I
  have e0 := I.1
  unfold sp_step at k
  refine ok_iload_n dX5_step_0 rfl ?_
  refine ok_iconst (v := nI 0) dX5_step_1 (by decide) ?_
  refine ok_sipush (v := nI 1000) dX5_step_2 (by decide) ?_
  refine call_X5_in dX5_step_5 lk_X5_69 ⟨Nat.le_of_ble_eq_true rfl, Nat.le_of_ble_eq_true rfl, Nat.le_of_ble_eq_true rfl⟩ (Nat.le_of_ble_eq_true rfl) ?_
  refine c_X5_inP (n := 1001) (by decide) (by decide) (fun m p1 p2 p3 => ?_) (fun q => ?_)
  · rw [p1] at k
    dsimp only at k
    unfold ofp at k
    subst p3
    refine okN_if_ne (tgt := 13) dX5_step_8 (by decide) (by omega) (fun c1 => ?_) (fun c1 => ?_)
    · refine ok_aload_n dX5_step_13 rfl rfl ?_
      refine ok_iload_n dX5_step_14 rfl ?_
      refine call_X5_looked dX5_step_15 lk_X5_81 ⟨Nat.le_of_ble_eq_true rfl, Nat.le_of_ble_eq_true rfl, Nat.le_of_ble_eq_true rfl⟩ (by assumption) (Nat.le_of_ble_eq_true rfl) ?_
      refine c_X5_looked I (fun q => ?_) (fun j h' q1 q2 x' I' => ?_) (fun j q1 q2 q3 q4 => ?_)
      · rw [q] at k
        refine ok_istore_n dX5_step_18 (st_5_3 rfl) (Nat.le_of_ble_eq_true rfl) ?_
        refine ok_iload_n dX5_step_19 rfl ?_
        refine ok_if_ge (tgt := 25) dX5_step_20 (by decide) (fun c2 => ?_) (fun c2 => ?_)
        · exact absurd c2 (by decide)
        · refine ok_iload_n dX5_step_23 rfl ?_
          refine ok_iret dX5_step_24 rfl rfl ⟨Nat.le_of_ble_eq_true rfl, Nat.le_of_ble_eq_true rfl⟩ ?_
          exact k h fM.rf ⟨_, _, _, _, I⟩
      · rw [q1] at k
        dsimp only at k
        rw [if_neg (by rw [q2]; decide)] at k
        refine ok_istore_n dX5_step_18 (st_5_3 rfl) (Nat.le_of_ble_eq_true rfl) ?_
        refine ok_iload_n dX5_step_19 rfl ?_
        refine ok_if_ge (tgt := 25) dX5_step_20 (by decide) (fun c2 => ?_) (fun c2 => ?_)
        · exact absurd c2 (by decide)
        · refine ok_iload_n dX5_step_23 rfl ?_
          refine ok_iret dX5_step_24 rfl rfl ⟨Nat.le_of_ble_eq_true rfl, Nat.le_of_ble_eq_true rfl⟩ ?_
          exact k h' (x'.m (by decide)) ⟨_, _, _, _, I'⟩
      · rw [q1] at k
        dsimp only at k
        rw [if_pos q4] at k
        subst q3
        refine ok_istore_n dX5_step_18 (st_5_3 rfl) (Nat.le_of_ble_eq_true rfl) ?_
        refine ok_iload_n dX5_step_19 rfl ?_
        refine okN_if_ge (tgt := 25) dX5_step_20 (by decide) (by omega) ?_
        refine ok_aload_n dX5_step_25 rfl rfl ?_
        refine ok_iload_n dX5_step_26 rfl ?_
        refine call_X5_load dX5_step_27 lk_X5_118 ⟨Nat.le_of_ble_eq_true rfl, Nat.le_of_ble_eq_true rfl, Nat.le_of_ble_eq_true rfl⟩ (by assumption) (Nat.le_of_ble_eq_true rfl) ?_
        refine c_X5_load I q2 q4 (fun h1 x1 I1 R1 => ?_)
        have ol := I.2.2.2.2.2.2.1 j q2 q4
        refine ok_iconst (v := nI 0) dX5_step_30 (by decide) ?_
        refine ok_istore dX5_step_31 (st_5_4 rfl) (Nat.le_of_ble_eq_true rfl) ?_
        exact l_X5_step (h := h) (l := S.2.1 j) ol q2 q4 (by omega) (fun h' x' I' => k h' (x'.m (by decide)) ⟨_, _, _, _, I'⟩) m 0 h1 (by omega) x1 I1 R1
    · exact absurd c1 (by decide)
  · rw [q] at k
    refine okN_if_ne (tgt := 13) dX5_step_8 (by decide) (by omega) (fun c1 => ?_) (fun c1 => ?_)
    · exact absurd c1 (by decide)
    · refine ok_iconst (v := -1) dX5_step_11 (by decide) ?_
      refine ok_iret dX5_step_12 rfl rfl ⟨Nat.le_of_ble_eq_true rfl, Nat.le_of_ble_eq_true rfl⟩ ?_
      exact k h fM.rf ⟨_, _, _, _, I⟩
theorem l_X5_turnI {p i w : Nat} {v2 : Int32} {l : List Nat} {M : Nat → Nat} (ol : okl l) (hi : i < 18)
    (k : ∀ h' z, hx [50] h h' → hc h' 46 = some (mdo fi wk ru l.length li lz kd) → Rm h' l → hc h' 50 = some (aI 18 (up M i (gcN l i l.length))) → Ok g MX5_turn (m_J g MX5_turn Q) 97 [some (.ref 46), some (.int (nI p)), some (.int v2), some (.int (nI w)), some (.int (nI i)), z] [] h' 0 0) :
    ∀ (d j : Nat) (h1 : mH), j + d = l.length → hx [50] h h1 → hc h1 46 = some (mdo fi wk ru l.length li lz kd) → Rm h1 l → hc h1 50 = some (aI 18 (up M i (gcN l i j))) → Ok g MX5_turn (m_J g MX5_turn Q) 55 [some (.ref 46), some (.int (nI p)), some (.int v2), some (.int (nI w)), some (.int (nI i)), some (.int (nI j))] [] h1 0 0 := by
  have hlen := ol.len
  have hs := ol.2.2
  intro d
  induction d with
  | zero =>
    intro j h1 hj x1 e0 R e50
    have ej : j = l.length := by omega
    subst ej
    refine ok_iload dX5_turn_55 rfl ?_
    refine ok_aload_n dX5_turn_57 rfl rfl ?_
    refine ok_get dX5_turn_58 fl_X5_94 (by assumption) (by rfl) ?_
    refine okN_icmp_ge (tgt := 97) dX5_turn_61 (by decide) (by omega) (by omega) (fun c1 => ?_) (fun c1 => ?_)
    · exact k h1 _ x1 e0 R e50
    · exact absurd c1 (by omega)
  | succ d ih =>
    intro j h1 hj x1 e0 R e50
    obtain ⟨F, e51, a⟩ := id R
    have gb := gd_sum l j
    have rest : ∀ b, b = (if i < l.getD j 0 then 1 else 0) → Ok g MX5_turn (m_J g MX5_turn Q) 89 [some (.ref 46), some (.int (nI p)), some (.int v2), some (.int (nI w)), some (.int (nI i)), some (.int (nI j))] [.int (nI b), .int (nI (gcN l i j)), .int (nI i), .ref 50] h1 0 0 := by
      intro b hb
      subst hb
      first | refine okN_iadd dX5_turn_89 ?_ | refine ok_iadd dX5_turn_89 ?_
      first | refine okN_iast dX5_turn_90 (by assumption) (by omega) (by decide) (fun h2 hx2 he2 => ?_) | refine okC_iast dX5_turn_90 (by assumption) (by omega) (by omega) (by omega) (fun h2 hx2 he2 => ?_) | refine okF_iast dX5_turn_90 (by assumption) (by omega) (by omega) (fun h2 hx2 he2 => ?_) | refine okN_kast dX5_turn_90 (by assumption) (by omega) (by decide) (fun h2 hx2 he2 => ?_)
      rw [up_up] at he2
      refine okN_inc dX5_turn_91 rfl (st_6_5 rfl) (Nat.le_of_ble_eq_true rfl) ?_
      refine ok_goto (tgt := 55) dX5_turn_94 (by decide) ?_
      exact ih (j + 1) h2 (by omega) (x1.tr' hx2) (hx2.at (by decide) e0) (R.at hx2 (by decide)) he2
    refine ok_iload dX5_turn_55 rfl ?_
    refine ok_aload_n dX5_turn_57 rfl rfl ?_
    refine ok_get dX5_turn_58 fl_X5_94 (by assumption) (by rfl) ?_
    refine okN_icmp_ge (tgt := 97) dX5_turn_61 (by decide) (by omega) (by omega) (fun c1 => ?_) (fun c1 => ?_)
    · exact absurd c1 (by omega)
    · refine ok_aload_n dX5_turn_64 rfl rfl ?_
      refine ok_get dX5_turn_65 fl_X5_19 (by assumption) (by rfl) ?_
      refine ok_iload dX5_turn_68 rfl ?_
      refine ok_dup2 dX5_turn_70 rfl rfl ?_
      first | refine okN_iald dX5_turn_71 (by assumption) (by omega) (by decide) ?_ | refine okF_iald dX5_turn_71 (by assumption) (by omega) (by omega) ?_ | refine okN_kald dX5_turn_71 (by assumption) (by omega) (by decide) ?_
      rw [up_eq]
      refine ok_aload_n dX5_turn_72 rfl rfl ?_
      refine ok_get dX5_turn_73 fl_X5_22 (by assumption) (by rfl) ?_
      refine ok_iload dX5_turn_76 rfl ?_
      first | refine okN_iald dX5_turn_78 (by assumption) (by omega) (by decide) ?_ | refine okF_iald dX5_turn_78 (by assumption) (by omega) (by omega) ?_ | refine okN_kald dX5_turn_78 (by assumption) (by omega) (by decide) ?_
      rw [a j c1]
      refine ok_iload dX5_turn_79 rfl ?_
      refine okN_icmp_le (tgt := 88) dX5_turn_81 (by decide) (by omega) (by omega) (fun c2 => ?_) (fun c2 => ?_)
      · refine ok_iconst (v := nI 0) dX5_turn_88 (by decide) ?_
        exact rest 0 (by rw [if_neg (by omega)])
      · refine ok_iconst (v := nI 1) dX5_turn_84 (by decide) ?_
        refine ok_goto (tgt := 89) dX5_turn_85 (by decide) ?_
        exact rest 1 (by rw [if_pos c2])
theorem l_X5_turn1 {p w : Nat} {v2 : Int32} {l : List Nat} (ol : okl l) (hw : w ≤ 18)
    (k : ∀ h' M z4 z5, hx [50] h h' → hc h' 46 = some (mdo fi wk ru l.length li lz kd) → Rm h' l → hc h' 50 = some (aI 18 M) → (∀ j, j < w → M j = gcN l j l.length) → Ok g MX5_turn (m_J g MX5_turn Q) 103 [some (.ref 46), some (.int (nI p)), some (.int v2), some (.int (nI w)), z4, z5] [] h' 0 0) :
    ∀ (d i : Nat) (h1 : mH) (M : Nat → Nat) (z5 : Option Value), i + d = w → hx [50] h h1 → hc h1 46 = some (mdo fi wk ru l.length li lz kd) → Rm h1 l → hc h1 50 = some (aI 18 M) → (∀ j, j < i → M j = gcN l j l.length) → Ok g MX5_turn (m_J g MX5_turn Q) 38 [some (.ref 46), some (.int (nI p)), some (.int v2), some (.int (nI w)), some (.int (nI i)), z5] [] h1 0 0 := by
  intro d
  induction d with
  | zero =>
    intro i h1 M z5 hi x1 e0 R e50 f
    have ei : i = w := by omega
    subst ei
    refine ok_iload dX5_turn_38 rfl ?_
    refine ok_iload_n dX5_turn_40 rfl ?_
    refine okN_icmp_ge (tgt := 103) dX5_turn_41 (by decide) (by omega) (by omega) (fun c1 => ?_) (fun c1 => ?_)
    · exact k h1 M _ _ x1 e0 R e50 f
    · exact absurd c1 (by omega)
  | succ d ih =>
    intro i h1 M z5 hi x1 e0 R e50 f
    refine ok_iload dX5_turn_38 rfl ?_
    refine ok_iload_n dX5_turn_40 rfl ?_
    refine okN_icmp_ge (tgt := 103) dX5_turn_41 (by decide) (by omega) (by omega) (fun c1 => ?_) (fun c1 => ?_)
    · exact absurd c1 (by omega)
    · refine ok_aload_n dX5_turn_44 rfl rfl ?_
      refine ok_get dX5_turn_45 fl_X5_19 (by assumption) (by rfl) ?_
      refine ok_iload dX5_turn_48 rfl ?_
      refine ok_iconst (v := nI 0) dX5_turn_50 (by decide) ?_
      first | refine okN_iast dX5_turn_51 (by assumption) (by omega) (by decide) (fun h2 hx2 he2 => ?_) | refine okC_iast dX5_turn_51 (by assumption) (by omega) (by omega) (by omega) (fun h2 hx2 he2 => ?_) | refine okF_iast dX5_turn_51 (by assumption) (by omega) (by omega) (fun h2 hx2 he2 => ?_) | refine okN_kast dX5_turn_51 (by assumption) (by omega) (by decide) (fun h2 hx2 he2 => ?_)
      refine ok_iconst (v := nI 0) dX5_turn_52 (by decide) ?_
      refine ok_istore dX5_turn_53 (st_6_5 rfl) (Nat.le_of_ble_eq_true rfl) ?_
      refine l_X5_turnI (h := h2) (l := l) (M := M) ol (by omega) (fun h3 z x3 e03 R3 e503 => ?_) l.length 0 h2 (by omega) hx.rf (hx2.at (by decide) e0) (R.at hx2 (by decide)) he2
      refine okN_inc dX5_turn_97 rfl (st_6_4 rfl) (Nat.le_of_ble_eq_true rfl) ?_
      refine ok_goto (tgt := 38) dX5_turn_100 (by decide) ?_
      refine ih (i + 1) h3 _ _ (by omega) ((x1.tr' hx2).tr' x3) e03 R3 e503 (fun j hj => ?_)
      by_cases c : j = i
      · rw [c, up_eq]
      · rw [up_ne c, f j (by omega)]
theorem l_X5_turn2 {p w sz' : Nat} {v2 : Int32} {z5 : Option Value} {M : Nat → Nat} {F0 : Nat → Nat} (hw : w ≤ 18)
    (k : ∀ h' F z, hx [51] h h' → hc h' 46 = some (mdo fi wk ru sz' li lz kd) → hc h' 51 = some (aI 20 F) → (∀ j, j < w → F j = M j) → Ok g MX5_turn (m_J g MX5_turn Q) 137 [some (.ref 46), some (.int (nI p)), some (.int v2), some (.int (nI w)), z, z5] [] h' 0 0) :
    ∀ (d i : Nat) (h1 : mH) (F : Nat → Nat), i + d = w → hx [51] h h1 → hc h1 46 = some (mdo fi wk ru sz' li lz kd) → hc h1 50 = some (aI 18 M) → hc h1 51 = some (aI 20 F) → (∀ j, j < i → F j = M j) → Ok g MX5_turn (m_J g MX5_turn Q) 111 [some (.ref 46), some (.int (nI p)), some (.int v2), some (.int (nI w)), some (.int (nI i)), z5] [] h1 0 0 := by
  intro d
  induction d with
  | zero =>
    intro i h1 F hi x1 e0 e50 e51 f
    have ei : i = w := by omega
    subst ei
    refine ok_iload dX5_turn_111 rfl ?_
    refine ok_iload_n dX5_turn_113 rfl ?_
    refine okN_icmp_ge (tgt := 137) dX5_turn_114 (by decide) (by omega) (by omega) (fun c1 => ?_) (fun c1 => ?_)
    · exact k h1 F _ x1 e0 e51 f
    · exact absurd c1 (by omega)
  | succ d ih =>
    intro i h1 F hi x1 e0 e50 e51 f
    refine ok_iload dX5_turn_111 rfl ?_
    refine ok_iload_n dX5_turn_113 rfl ?_
    refine okN_icmp_ge (tgt := 137) dX5_turn_114 (by decide) (by omega) (by omega) (fun c1 => ?_) (fun c1 => ?_)
    · exact absurd c1 (by omega)
    · refine ok_aload_n dX5_turn_117 rfl rfl ?_
      refine ok_get dX5_turn_118 fl_X5_22 (by assumption) (by rfl) ?_
      refine ok_iload dX5_turn_121 rfl ?_
      refine ok_aload_n dX5_turn_123 rfl rfl ?_
      refine ok_get dX5_turn_124 fl_X5_19 (by assumption) (by rfl) ?_
      refine ok_iload dX5_turn_127 rfl ?_
      first | refine okN_iald dX5_turn_129 (by assumption) (by omega) (by decide) ?_ | refine okF_iald dX5_turn_129 (by assumption) (by omega) (by omega) ?_ | refine okN_kald dX5_turn_129 (by assumption) (by omega) (by decide) ?_
      first | refine okN_iast dX5_turn_130 (by assumption) (by omega) (by decide) (fun h2 hx2 he2 => ?_) | refine okC_iast dX5_turn_130 (by assumption) (by omega) (by omega) (by omega) (fun h2 hx2 he2 => ?_) | refine okF_iast dX5_turn_130 (by assumption) (by omega) (by omega) (fun h2 hx2 he2 => ?_) | refine okN_kast dX5_turn_130 (by assumption) (by omega) (by decide) (fun h2 hx2 he2 => ?_)
      refine okN_inc dX5_turn_131 rfl (st_6_4 rfl) (Nat.le_of_ble_eq_true rfl) ?_
      refine ok_goto (tgt := 111) dX5_turn_134 (by decide) ?_
      refine ih (i + 1) h2 _ (by omega) (x1.tr' hx2) (hx2.at (by decide) e0) (hx2.at (by decide) e50) he2 (fun j hj => ?_)
      by_cases c : j = i
      · rw [c, up_eq]
      · rw [up_ne c, f j (by omega)]
theorem mv_len (l : List Nat) : ∀ i, (mvN l i).length = i
  | 0 => rfl
  | i + 1 => by unfold mvN; rw [List.length_append, mv_len l i]; rfl
theorem mv_get (l : List Nat) : ∀ i j, j < i → (mvN l i).getD j 0 = gcN l j l.length
  | 0, j, h => by omega
  | i + 1, j, h => by
    unfold mvN
    by_cases c : j = i
    · subst c
      have := ap_get2 (l := mvN l j) (v := gcN l j l.length)
      rw [mv_len] at this
      exact this
    · rw [ap_get1 (by rw [mv_len]; omega)]
      exact mv_get l i j (by omega)
theorem p_X5_turn {p : Int32} (I : IM h S) (k : ∀ h', fM h h' → IM h' (sp_turn S p).2 → Q (some (.int (sp_turn S p).1)) h') : Ok g MX5_turn (m_J g MX5_turn Q) 0 [some (.ref 46), some (.int p), none, none, none, none] [] h 0 0 := by
  obtain ⟨sz, li, lz, kd, I⟩ := I
  have e0 := I.1
  unfold sp_turn ofp at k
  refine ok_aload_n dX5_turn_0 rfl rfl ?_
  refine ok_iload_n dX5_turn_1 rfl ?_
  refine call_X5_looked dX5_turn_2 lk_X5_81 ⟨Nat.le_of_ble_eq_true rfl, Nat.le_of_ble_eq_true rfl, Nat.le_of_ble_eq_true rfl⟩ (by assumption) (Nat.le_of_ble_eq_true rfl) ?_
  refine c_X5_looked I (fun q => ?_) (fun j h' q1 q2 x' I' => ?_) (fun j q1 q2 q3 q4 => ?_)
  · rw [q] at k
    refine ok_istore_n dX5_turn_5 (st_6_2 rfl) (Nat.le_of_ble_eq_true rfl) ?_
    refine ok_iload_n dX5_turn_6 rfl ?_
    refine ok_if_ge (tgt := 12) dX5_turn_7 (by decide) (fun c2 => ?_) (fun c2 => ?_)
    · exact absurd c2 (by decide)
    · refine ok_iload_n dX5_turn_10 rfl ?_
      refine ok_iret dX5_turn_11 rfl rfl ⟨Nat.le_of_ble_eq_true rfl, Nat.le_of_ble_eq_true rfl⟩ ?_
      exact k h fM.rf ⟨_, _, _, _, I⟩
  · rw [q1] at k
    dsimp only at k
    rw [if_neg (by rw [q2]; decide)] at k
    refine ok_istore_n dX5_turn_5 (st_6_2 rfl) (Nat.le_of_ble_eq_true rfl) ?_
    refine ok_iload_n dX5_turn_6 rfl ?_
    refine ok_if_ge (tgt := 12) dX5_turn_7 (by decide) (fun c2 => ?_) (fun c2 => ?_)
    · exact absurd c2 (by decide)
    · refine ok_iload_n dX5_turn_10 rfl ?_
      refine ok_iret dX5_turn_11 rfl rfl ⟨Nat.le_of_ble_eq_true rfl, Nat.le_of_ble_eq_true rfl⟩ ?_
      exact k h' (x'.m (by decide)) ⟨_, _, _, _, I'⟩
  · rw [q1] at k
    dsimp only at k
    rw [if_pos q4] at k
    subst q3
    refine ok_istore_n dX5_turn_5 (st_6_2 rfl) (Nat.le_of_ble_eq_true rfl) ?_
    refine ok_iload_n dX5_turn_6 rfl ?_
    refine okN_if_ge (tgt := 12) dX5_turn_7 (by decide) (by omega) ?_
    have ol := I.2.2.2.2.2.2.1 j q2 q4
    have hlen := ol.len
    have hs := ol.2.2
    have gb := gd_sum (S.2.1 j) 0
    obtain ⟨t1, t2, t3⟩ := trn_ok ol
    refine ok_aload_n dX5_turn_12 rfl rfl ?_
    refine ok_iload_n dX5_turn_13 rfl ?_
    refine call_X5_load dX5_turn_14 lk_X5_118 ⟨Nat.le_of_ble_eq_true rfl, Nat.le_of_ble_eq_true rfl, Nat.le_of_ble_eq_true rfl⟩ (by assumption) (Nat.le_of_ble_eq_true rfl) ?_
    refine c_X5_load I q2 q4 (fun h1 x1 I1 R1 => ?_)
    have e01 := I1.1
    obtain ⟨F1, e51, a1⟩ := id R1
    obtain ⟨M0, e50⟩ := I1.2.2.2.2.2.1.1
    have tl : (trn (S.2.1 j)).length = (S.2.1 j).getD 0 0 := by rw [← t2, mv_len]
    have rest : ∀ w, w = (S.2.1 j).getD 0 0 → Ok g MX5_turn (m_J g MX5_turn Q) 34 [some (.ref 46), some (.int (nI j)), some (.int (nI 0)), none, none, none] [.int (nI w)] h1 0 0 := by
      intro w hw
      refine ok_istore_n dX5_turn_34 (st_6_3 rfl) (Nat.le_of_ble_eq_true rfl) ?_
      refine ok_iconst (v := nI 0) dX5_turn_35 (by decide) ?_
      refine ok_istore dX5_turn_36 (st_6_4 rfl) (Nat.le_of_ble_eq_true rfl) ?_
      refine l_X5_turn1 (h := h1) (l := S.2.1 j) ol (by omega) (fun h2 M z4 z5 x2 e02 R2 e502 f2 => ?_) w 0 h1 M0 _ (by omega) hx.rf e01 R1 e50 (fun q hq => by omega)
      obtain ⟨F2, e512, a2⟩ := R2
      refine ok_aload_n dX5_turn_103 rfl rfl ?_
      refine ok_iload_n dX5_turn_104 rfl ?_
      refine okR_put dX5_turn_105 fl_X5_94 (by assumption) (Nat.le_of_ble_eq_true rfl) (fun _ => ⟨rfl, rfl⟩) set_24_8 (fun h3 hx3 he3 => ?_)
      refine ok_iconst (v := nI 0) dX5_turn_108 (by decide) ?_
      refine ok_istore dX5_turn_109 (st_6_4 rfl) (Nat.le_of_ble_eq_true rfl) ?_
      refine l_X5_turn2 (h := h3) (M := M) (F0 := F2) (by omega) (fun h4 F z x4 e04 e514 f4 => ?_) w 0 h3 F2 (by omega) hx.rf he3 (hx3.at (by decide) e502) (hx3.at (by decide) e512) (fun q hq => by omega)
      have x24 : hx [46, 51] h2 h4 := hx3.tr x4 (by simp) (by simp)
      have R4 : Rm h4 (trn (S.2.1 j)) := by
        refine ⟨F, e514, fun i hi => ?_⟩
        rw [tl] at hi
        rw [f4 i (by omega), f2 i (by omega), ← t2, mv_get _ _ _ hi]
      have I2 : MI h2 S (S.2.1 j).length li lz kd := I1.set50 x2 ⟨M, e502⟩
      rw [hw, ← tl] at e04
      have I4 := I2.set51 x24 e04 R4
      refine ok_aload_n dX5_turn_137 rfl rfl ?_
      refine ok_iload_n dX5_turn_138 rfl ?_
      refine call_X5_keep dX5_turn_139 lk_X5_131 ⟨Nat.le_of_ble_eq_true rfl, Nat.le_of_ble_eq_true rfl, Nat.le_of_ble_eq_true rfl⟩ (by assumption) (Nat.le_of_ble_eq_true rfl) ?_
      refine c_X5_keep I4 R4 (t1 _ (Nat.le_refl _)) q2 (fun h5 x5 I5 => ?_)
      have e05 := I5.1
      refine ok_aload_n dX5_turn_142 rfl rfl ?_
      refine ok_get dX5_turn_143 fl_X5_94 (by assumption) (by rfl) ?_
      refine ok_iret dX5_turn_146 rfl rfl ⟨Nat.le_of_ble_eq_true rfl, Nat.le_of_ble_eq_true rfl⟩ ?_
      rw [s_TP_P _ q4] at I5
      exact k h5 ((((x1.tr x2 (C := [46, 48, 49, 50, 51]) (by simp) (by simp)).tr x24 (C := [46, 48, 49, 50, 51]) (by simp) (by simp)).tr x5 (C := [46, 48, 49, 50, 51]) (by simp) (by simp)).m (by decide)) ⟨_, _, _, _, I5⟩
    refine ok_aload_n dX5_turn_17 rfl rfl ?_
    refine ok_get dX5_turn_18 fl_X5_94 (by assumption) (by rfl) ?_
    refine okN_if_ne (tgt := 28) dX5_turn_21 (by decide) (by omega) (fun c3 => ?_) (fun c3 => ?_)
    · refine ok_aload_n dX5_turn_28 rfl rfl ?_
      refine ok_get dX5_turn_29 fl_X5_22 (by assumption) (by rfl) ?_
      refine ok_iconst (v := nI 0) dX5_turn_32 (by decide) ?_
      first | refine okN_iald dX5_turn_33 (by assumption) (by omega) (by decide) ?_ | refine okF_iald dX5_turn_33 (by assumption) (by omega) (by omega) ?_ | refine okN_kald dX5_turn_33 (by assumption) (by omega) (by decide) ?_
      rw [a1 0 c3]
      exact rest _ rfl
    · refine ok_iconst (v := nI 0) dX5_turn_24 (by decide) ?_
      refine ok_goto (tgt := 34) dX5_turn_25 (by decide) ?_
      refine rest 0 ?_
      rw [List.eq_nil_of_length_eq_zero c3]
      rfl
end MLIST2
