/-! ===== the second program's calls on gifts ===== -/
theorem one_l (x : Nat) : (0 : Int64) + 1 * lN x = lN x := by rw [Int64.zero_add, Int64.one_mul]
theorem MI.setK {h h' : mH} {S : ST} {sz lz : Nat} {li kd : Int32} {w : Int64} (I : MI h S sz li lz kd) (x : hx [46] h h') (e : hc h' 46 = some (mdo S.2.2.2.1 w S.2.2.1 sz li lz kd)) : MI h' (s_wk S w) sz li lz kd := by
  obtain ⟨e0, k1, k2, k3, k4, k5, k6, k7⟩ := I
  exact ⟨e, k1.at x (by decide), k2.at x (by decide), k3.at x (by decide), k4.at x (by decide) (by decide), k5.at x (fun q l => by simp <;> omega), k6, k7⟩
section MWAYSR
variable {g : mG} {h : mH} {Q : Option Value → mH → Prop} {S : ST} {sz lz : Nat} {li kd : Int32} {fi : Nat} {wk : Int64} {ru : Nat}
theorem p_X5_ways {p q : Int32} (I : IM h S) (k : ∀ h', fM h h' → IM h' (sp_ways S p q).2 → Q (some (.int (sp_ways S p q).1)) h') : Ok g MX5_ways (m_J g MX5_ways Q) 0 [some (.ref 46), some (.int p), some (.int q)] [] h 0 0 := by
  obtain ⟨sz, li, lz, kd, I⟩ := I
  obtain ⟨e0, -, ⟨F, e1, f1⟩, ⟨G, e2, g2⟩, -, -, k6, k7⟩ := id I
  unfold sp_ways of2 at k
  refine ok_iload_n dX5_ways_0 rfl ?_
  refine call_X5_isParting dX5_ways_1 lk_X5_73 ⟨Nat.le_of_ble_eq_true rfl, Nat.le_of_ble_eq_true rfl, Nat.le_of_ble_eq_true rfl⟩ (Nat.le_of_ble_eq_true rfl) ?_
  refine c_X5_isParting (fun a q1 q2 q3 => ?_) (fun z => ?_)
  · rw [q1] at k
    subst q3
    refine okN_if_eq (tgt := 14) dX5_ways_4 (by decide) (by omega) (fun c1 => ?_) (fun c1 => ?_)
    · exact absurd c1 (by decide)
    · refine ok_iload_n dX5_ways_7 rfl ?_
      refine call_X5_isParting dX5_ways_8 lk_X5_73 ⟨Nat.le_of_ble_eq_true rfl, Nat.le_of_ble_eq_true rfl, Nat.le_of_ble_eq_true rfl⟩ (Nat.le_of_ble_eq_true rfl) ?_
      refine c_X5_isParting (fun b p1 p2 p3 => ?_) (fun z => ?_)
      · rw [p1] at k
        dsimp only at k
        subst p3
        refine okN_if_ne (tgt := 16) dX5_ways_11 (by decide) (by omega) (fun c2 => ?_) (fun c2 => ?_)
        · have bad : ¬ (S.1 a = true ∧ S.1 b = true) → Ok g MX5_ways (m_J g MX5_ways Q) 34 [some (.ref 46), some (.int (nI a)), some (.int (nI b))] [] h 0 0 := by
            intro hn
            rw [if_neg hn] at k
            refine ok_aload_n dX5_ways_34 rfl rfl ?_
            refine ok_iconst (v := nI 1) dX5_ways_35 (by decide) ?_
            refine call_X5_meets dX5_ways_36 lk_X5_77 ⟨Nat.le_of_ble_eq_true rfl, Nat.le_of_ble_eq_true rfl, Nat.le_of_ble_eq_true rfl⟩ (by assumption) (Nat.le_of_ble_eq_true rfl) ?_
            refine c_X5_meets I (by decide) (fun h' x' I' => ?_)
            refine ok_iret dX5_ways_39 rfl rfl ⟨Nat.le_of_ble_eq_true rfl, Nat.le_of_ble_eq_true rfl⟩ ?_
            exact k h' (x'.m (by decide)) ⟨_, _, _, _, I'⟩
          refine ok_aload_n dX5_ways_16 rfl rfl ?_
          refine ok_get dX5_ways_17 fl_X5_13 (by assumption) (by rfl) ?_
          refine ok_iload_n dX5_ways_20 rfl ?_
          first | refine okN_iald dX5_ways_21 (by assumption) (by omega) (by decide) ?_ | refine okF_iald dX5_ways_21 (by assumption) (by omega) (by omega) ?_ | refine okN_kald dX5_ways_21 (by assumption) (by omega) (by decide) ?_
          rw [f1 a q2]
          cases hta : S.1 a with
          | false =>
            rw [if_neg (by decide)]
            refine ok_if_lt (tgt := 34) dX5_ways_22 (by decide) (fun c4 => ?_) (fun c4 => ?_)
            · exact bad (fun z => by rw [hta] at z; exact absurd z.1 (by decide))
            · exact absurd (by decide) c4
          | true =>
            rw [if_pos rfl]
            have ola := k6 a q2 hta
            have hla := ola.len
            have hsa := ola.2.2
            refine okN_if_lt (tgt := 34) dX5_ways_22 (by decide) (by omega) ?_
            refine ok_aload_n dX5_ways_25 rfl rfl ?_
            refine ok_get dX5_ways_26 fl_X5_13 (by assumption) (by rfl) ?_
            refine ok_iload_n dX5_ways_29 rfl ?_
            first | refine okN_iald dX5_ways_30 (by assumption) (by omega) (by decide) ?_ | refine okF_iald dX5_ways_30 (by assumption) (by omega) (by omega) ?_ | refine okN_kald dX5_ways_30 (by assumption) (by omega) (by decide) ?_
            rw [f1 b p2]
            cases htb : S.1 b with
            | false =>
              rw [if_neg (by decide)]
              refine ok_if_ge (tgt := 40) dX5_ways_31 (by decide) (fun c5 => ?_) (fun c5 => ?_)
              · exact absurd c5 (by decide)
              · exact bad (fun z => by rw [htb] at z; exact absurd z.2 (by decide))
            | true =>
              rw [if_pos rfl]
              have olb := k6 b p2 htb
              have hlb := olb.len
              have hsb := olb.2.2
              rw [if_pos ⟨hta, htb⟩] at k
              refine okN_if_ge (tgt := 40) dX5_ways_31 (by decide) (by omega) ?_
              refine ok_aload_n dX5_ways_40 rfl rfl ?_
              refine ok_iload_n dX5_ways_41 rfl ?_
              refine call_X5_cards dX5_ways_42 lk_X5_84 ⟨Nat.le_of_ble_eq_true rfl, Nat.le_of_ble_eq_true rfl, Nat.le_of_ble_eq_true rfl⟩ (by assumption) (Nat.le_of_ble_eq_true rfl) ?_
              refine c_X5_cards I q2 hta ?_
              refine ok_aload_n dX5_ways_45 rfl rfl ?_
              refine ok_iload_n dX5_ways_46 rfl ?_
              refine call_X5_cards dX5_ways_47 lk_X5_84 ⟨Nat.le_of_ble_eq_true rfl, Nat.le_of_ble_eq_true rfl, Nat.le_of_ble_eq_true rfl⟩ (by assumption) (Nat.le_of_ble_eq_true rfl) ?_
              refine c_X5_cards I p2 htb ?_
              dsimp only [m_push]
              refine okN_icmp_eq (tgt := 55) dX5_ways_50 (by decide) (by omega) (by omega) (fun c6 => ?_) (fun c6 => ?_)
              · rw [if_pos c6] at k
                refine ok_aload_n dX5_ways_55 rfl rfl ?_
                refine call_X5_noWays dX5_ways_56 lk_X5_156 ⟨Nat.le_of_ble_eq_true rfl, Nat.le_of_ble_eq_true rfl, Nat.le_of_ble_eq_true rfl⟩ (by assumption) (Nat.le_of_ble_eq_true rfl) ?_
                refine c_X5_noWays I (fun h1 x1 I1 e591 => ?_)
                have e01 := I1.1
                refine ok_aload_n dX5_ways_59 rfl rfl ?_
                refine ok_aload_n dX5_ways_60 rfl rfl ?_
                refine ok_iload_n dX5_ways_61 rfl ?_
                refine call_X5_rankOf dX5_ways_62 lk_X5_125 ⟨Nat.le_of_ble_eq_true rfl, Nat.le_of_ble_eq_true rfl, Nat.le_of_ble_eq_true rfl⟩ (by assumption) (Nat.le_of_ble_eq_true rfl) ?_
                refine c_X5_rankOf I1 q2 hta (fun h2 x2 I2 R2 => ?_)
                have e02 := I2.1
                refine ok_lconst (v := 1) dX5_ways_65 (by decide) ?_
                refine call_X5_addWays dX5_ways_66 lk_X5_159 ⟨Nat.le_of_ble_eq_true rfl, Nat.le_of_ble_eq_true rfl, Nat.le_of_ble_eq_true rfl⟩ (by assumption) (Nat.le_of_ble_eq_true rfl) ?_
                refine c_X5_addWays I2 (by omega) (nb_lt ola) (x2.at (by decide) e591) (fun h3 sz3 kd3 T3 x3 I3 e593 f3 => ?_)
                have e03 := I3.1
                rw [wr_nb ola] at f3
                refine ok_aload_n dX5_ways_69 rfl rfl ?_
                refine ok_get dX5_ways_70 fl_X5_50 (by assumption) (by rfl) ?_
                refine ok_aload_n dX5_ways_73 rfl rfl ?_
                refine ok_iload_n dX5_ways_74 rfl ?_
                refine call_X5_rankOf dX5_ways_75 lk_X5_125 ⟨Nat.le_of_ble_eq_true rfl, Nat.le_of_ble_eq_true rfl, Nat.le_of_ble_eq_true rfl⟩ (by assumption) (Nat.le_of_ble_eq_true rfl) ?_
                refine c_X5_rankOf I3 p2 htb (fun h4 x4 I4 R4 => ?_)
                have e594 := x4.at (by decide) e593
                have nlt := nb_lt olb
                have cl := cap_lt (n := (S.2.1 b).sum) (m := (S.2.1 b).sum) (by omega) (by omega)
                dsimp only [m_push]
                refine okN_lald dX5_ways_78 (by assumption) (by omega) (by decide) ?_
                rw [f3, one_l]
                refine ok_l2i dX5_ways_79 ?_
                rw [lN_i]
                refine ok_iret dX5_ways_80 rfl rfl ⟨Nat.le_of_ble_eq_true rfl, Nat.le_of_ble_eq_true rfl⟩ ?_
                exact k h4 ((((x1.tr x2 (C := [46, 51, 52, 53, 59, 60, 61, 62]) (by simp) (by simp)).tr x3 (C := [46, 51, 52, 53, 59, 60, 61, 62]) (by simp) (by simp)).tr x4 (C := [46, 51, 52, 53, 59, 60, 61, 62]) (by simp) (by simp)).m (by decide)) ⟨_, _, _, _, I4⟩
              · rw [if_neg c6] at k
                refine ok_iconst (v := nI 0) dX5_ways_53 (by decide) ?_
                refine ok_iret dX5_ways_54 rfl rfl ⟨Nat.le_of_ble_eq_true rfl, Nat.le_of_ble_eq_true rfl⟩ ?_
                exact k h fM.rf ⟨_, _, _, _, I⟩
        · exact absurd c2 (by decide)
      · rw [z] at k
        dsimp only at k
        refine okN_if_ne (tgt := 16) dX5_ways_11 (by decide) (by omega) (fun c2 => ?_) (fun c2 => ?_)
        · exact absurd c2 (by decide)
        · refine ok_iconst (v := -1) dX5_ways_14 (by decide) ?_
          refine ok_iret dX5_ways_15 rfl rfl ⟨Nat.le_of_ble_eq_true rfl, Nat.le_of_ble_eq_true rfl⟩ ?_
          exact k h fM.rf ⟨_, _, _, _, I⟩
  · rw [z] at k
    dsimp only at k
    refine okN_if_eq (tgt := 14) dX5_ways_4 (by decide) (by omega) (fun c1 => ?_) (fun c1 => ?_)
    · refine ok_iconst (v := -1) dX5_ways_14 (by decide) ?_
      refine ok_iret dX5_ways_15 rfl rfl ⟨Nat.le_of_ble_eq_true rfl, Nat.le_of_ble_eq_true rfl⟩ ?_
      exact k h fM.rf ⟨_, _, _, _, I⟩
    · exact absurd c1 (by decide)
theorem l_X5_reach {p N : Nat} {v2 : Int32} {T : Nat → Int64} (hN : N < 386) (e0 : hc h 46 = some (mdo fi wk ru sz li N kd)) (e59 : hc h 59 = some (aJ 385 T)) (k : Q (some (.int (nI (cntF (fun x => decide ((0 : Int64) < T x)) N)))) h) :
    ∀ (d j : Nat), j + d = N → Ok g MX5_reach (m_J g MX5_reach Q) 31 [some (.ref 46), some (.int (nI p)), some (.int v2), some (.int (nI (cntF (fun x => decide ((0 : Int64) < T x)) j))), some (.int (nI j))] [] h 0 0 := by
  intro d
  induction d with
  | zero =>
    intro j hj
    have ej : j = N := by omega
    subst ej
    refine ok_iload dX5_reach_31 rfl ?_
    refine ok_aload_n dX5_reach_33 rfl rfl ?_
    refine ok_get dX5_reach_34 fl_X5_104 (by assumption) (by rfl) ?_
    refine okN_icmp_ge (tgt := 66) dX5_reach_37 (by decide) (by omega) (by omega) (fun c1 => ?_) (fun c1 => ?_)
    · refine ok_iload_n dX5_reach_66 rfl ?_
      refine ok_iret dX5_reach_67 rfl rfl ⟨Nat.le_of_ble_eq_true rfl, Nat.le_of_ble_eq_true rfl⟩ ?_
      exact k
    · exact absurd c1 (by omega)
  | succ d ih =>
    intro j hj
    have nxt' : Ok g MX5_reach (m_J g MX5_reach Q) 31 [some (.ref 46), some (.int (nI p)), some (.int v2), some (.int (nI (cntF (fun x => decide ((0 : Int64) < T x)) j + (if decide ((0 : Int64) < T j) = true then 1 else 0)))), some (.int (nI (j + 1)))] [] h 0 0 := ih (j + 1) (by omega)
    refine ok_iload dX5_reach_31 rfl ?_
    refine ok_aload_n dX5_reach_33 rfl rfl ?_
    refine ok_get dX5_reach_34 fl_X5_104 (by assumption) (by rfl) ?_
    refine okN_icmp_ge (tgt := 66) dX5_reach_37 (by decide) (by omega) (by omega) (fun c1 => ?_) (fun c1 => ?_)
    · exact absurd c1 (by omega)
    · refine ok_iload_n dX5_reach_40 rfl ?_
      refine ok_aload_n dX5_reach_41 rfl rfl ?_
      refine ok_get dX5_reach_42 fl_X5_50 (by assumption) (by rfl) ?_
      refine ok_iload dX5_reach_45 rfl ?_
      refine okN_lald dX5_reach_47 (by assumption) (by omega) (by decide) ?_
      refine ok_lconst (v := 0) dX5_reach_48 (by decide) ?_
      refine ok_lcmp dX5_reach_49 ?_
      refine ok_if_le (tgt := 57) dX5_reach_50 (by decide) (fun c2 => ?_) (fun c2 => ?_)
      · rw [cg0] at c2
        rw [if_neg (by simpa using c2)] at nxt'
        refine ok_iconst (v := nI 0) dX5_reach_57 (by decide) ?_
        first | refine okN_iadd dX5_reach_58 ?_ | refine ok_iadd dX5_reach_58 ?_
        refine ok_istore_n dX5_reach_59 (st_5_3 rfl) (Nat.le_of_ble_eq_true rfl) ?_
        refine okN_inc dX5_reach_60 rfl (st_5_4 rfl) (Nat.le_of_ble_eq_true rfl) ?_
        refine ok_goto (tgt := 31) dX5_reach_63 (by decide) ?_
        exact nxt'
      · rw [cg0] at c2
        rw [if_pos (by simpa using c2)] at nxt'
        refine ok_iconst (v := nI 1) dX5_reach_53 (by decide) ?_
        refine ok_goto (tgt := 58) dX5_reach_54 (by decide) ?_
        first | refine okN_iadd dX5_reach_58 ?_ | refine ok_iadd dX5_reach_58 ?_
        refine ok_istore_n dX5_reach_59 (st_5_3 rfl) (Nat.le_of_ble_eq_true rfl) ?_
        refine okN_inc dX5_reach_60 rfl (st_5_4 rfl) (Nat.le_of_ble_eq_true rfl) ?_
        refine ok_goto (tgt := 31) dX5_reach_63 (by decide) ?_
        exact nxt'
theorem p_X5_reach {p : Int32} (I : IM h S) (k : ∀ h', fM h h' → IM h' (sp_reach S p).2 → Q (some (.int (sp_reach S p).1)) h') : Ok g MX5_reach (m_J g MX5_reach Q) 0 [some (.ref 46), some (.int p), none, none, none] [] h 0 0 := by
  obtain ⟨sz, li, lz, kd, I⟩ := I
  have e0 := I.1
  unfold sp_reach ofp at k
  refine ok_aload_n dX5_reach_0 rfl rfl ?_
  refine ok_iload_n dX5_reach_1 rfl ?_
  refine call_X5_looked dX5_reach_2 lk_X5_81 ⟨Nat.le_of_ble_eq_true rfl, Nat.le_of_ble_eq_true rfl, Nat.le_of_ble_eq_true rfl⟩ (by assumption) (Nat.le_of_ble_eq_true rfl) ?_
  refine c_X5_looked I (fun q => ?_) (fun j h' q1 q2 x' I' => ?_) (fun j q1 q2 q3 q4 => ?_)
  · rw [q] at k
    refine ok_istore_n dX5_reach_5 (st_5_2 rfl) (Nat.le_of_ble_eq_true rfl) ?_
    refine ok_iload_n dX5_reach_6 rfl ?_
    refine ok_if_ge (tgt := 12) dX5_reach_7 (by decide) (fun c2 => ?_) (fun c2 => ?_)
    · exact absurd c2 (by decide)
    · refine ok_iload_n dX5_reach_10 rfl ?_
      refine ok_iret dX5_reach_11 rfl rfl ⟨Nat.le_of_ble_eq_true rfl, Nat.le_of_ble_eq_true rfl⟩ ?_
      exact k h fM.rf ⟨_, _, _, _, I⟩
  · rw [q1] at k
    dsimp only at k
    rw [if_neg (by rw [q2]; decide)] at k
    refine ok_istore_n dX5_reach_5 (st_5_2 rfl) (Nat.le_of_ble_eq_true rfl) ?_
    refine ok_iload_n dX5_reach_6 rfl ?_
    refine ok_if_ge (tgt := 12) dX5_reach_7 (by decide) (fun c2 => ?_) (fun c2 => ?_)
    · exact absurd c2 (by decide)
    · refine ok_iload_n dX5_reach_10 rfl ?_
      refine ok_iret dX5_reach_11 rfl rfl ⟨Nat.le_of_ble_eq_true rfl, Nat.le_of_ble_eq_true rfl⟩ ?_
      exact k h' (x'.m (by decide)) ⟨_, _, _, _, I'⟩
  · rw [q1] at k
    dsimp only at k
    rw [if_pos q4] at k
    subst q3
    refine ok_istore_n dX5_reach_5 (st_5_2 rfl) (Nat.le_of_ble_eq_true rfl) ?_
    refine ok_iload_n dX5_reach_6 rfl ?_
    refine okN_if_ge (tgt := 12) dX5_reach_7 (by decide) (by omega) ?_
    have ol := I.2.2.2.2.2.2.1 j q2 q4
    have hs := ol.2.2
    have cl := cap_lt (n := (S.2.1 j).sum) (m := (S.2.1 j).sum) (by omega) (by omega)
    refine ok_aload_n dX5_reach_12 rfl rfl ?_
    refine call_X5_noWays dX5_reach_13 lk_X5_156 ⟨Nat.le_of_ble_eq_true rfl, Nat.le_of_ble_eq_true rfl, Nat.le_of_ble_eq_true rfl⟩ (by assumption) (Nat.le_of_ble_eq_true rfl) ?_
    refine c_X5_noWays I (fun h1 x1 I1 e591 => ?_)
    have e01 := I1.1
    refine ok_aload_n dX5_reach_16 rfl rfl ?_
    refine ok_aload_n dX5_reach_17 rfl rfl ?_
    refine ok_iload_n dX5_reach_18 rfl ?_
    refine call_X5_rankOf dX5_reach_19 lk_X5_125 ⟨Nat.le_of_ble_eq_true rfl, Nat.le_of_ble_eq_true rfl, Nat.le_of_ble_eq_true rfl⟩ (by assumption) (Nat.le_of_ble_eq_true rfl) ?_
    refine c_X5_rankOf I1 q2 q4 (fun h2 x2 I2 R2 => ?_)
    have e02 := I2.1
    refine ok_lconst (v := 1) dX5_reach_22 (by decide) ?_
    refine call_X5_addWays dX5_reach_23 lk_X5_159 ⟨Nat.le_of_ble_eq_true rfl, Nat.le_of_ble_eq_true rfl, Nat.le_of_ble_eq_true rfl⟩ (by assumption) (Nat.le_of_ble_eq_true rfl) ?_
    refine c_X5_addWays I2 (by omega) (nb_lt ol) (x2.at (by decide) e591) (fun h3 sz3 kd3 T3 x3 I3 e593 f3 => ?_)
    have e03 := I3.1
    rw [wr_nb ol] at f3
    refine ok_iconst (v := nI 0) dX5_reach_26 (by decide) ?_
    refine ok_istore_n dX5_reach_27 (st_5_3 rfl) (Nat.le_of_ble_eq_true rfl) ?_
    refine ok_iconst (v := nI 0) dX5_reach_28 (by decide) ?_
    refine ok_istore dX5_reach_29 (st_5_4 rfl) (Nat.le_of_ble_eq_true rfl) ?_
    refine l_X5_reach cl e03 e593 ?_ (cap (S.2.1 j).sum (S.2.1 j).sum) 0 (by omega)
    have e : cntF (fun x => decide ((0 : Int64) < T3 x)) (cap (S.2.1 j).sum (S.2.1 j).sum) = rcN (S.2.1 j) := cnt_cg _ (fun x => by rw [f3 x, one_l])
    rw [e]
    exact k h3 (((x1.tr x2 (C := [46, 51, 52, 53, 59, 60, 61, 62]) (by simp) (by simp)).tr x3 (C := [46, 51, 52, 53, 59, 60, 61, 62]) (by simp) (by simp)).m (by decide)) ⟨_, _, _, _, I3⟩
abbrev wkX : List Nat := [46, 51, 52, 53, 59, 60, 61, 62, 63]
theorem l_X5_wk1 {a b kk t N : Nat} {T : Nat → Int64} (hN : N < 386) (hT : ∀ x, N ≤ x → T x = 0)
    (k : ∀ h' B z, hx [59, 63] h h' → hc h' 46 = some (mdo fi wk ru sz li N kd) → hc h' 59 = some (aJ 385 (fun _ => 0)) → hc h' 63 = some (aJ 385 B) → (∀ x, x < N → B x = T x) → Ok g MX5_walks (m_J g MX5_walks Q) 131 [some (.ref 46), some (.int (nI a)), some (.int (nI b)), some (.int (nI kk)), some (.int (nI t)), z] [] h' 0 0) :
    ∀ (d i : Nat) (h1 : mH) (A B : Nat → Int64), i + d = N → hx [59, 63] h h1 → hc h1 46 = some (mdo fi wk ru sz li N kd) → hc h1 59 = some (aJ 385 A) → hc h1 63 = some (aJ 385 B) → (∀ x, A x = if x < i then 0 else T x) → (∀ x, x < i → B x = T x) → Ok g MX5_walks (m_J g MX5_walks Q) 94 [some (.ref 46), some (.int (nI a)), some (.int (nI b)), some (.int (nI kk)), some (.int (nI t)), some (.int (nI i))] [] h1 0 0 := by
  intro d
  induction d with
  | zero =>
    intro i h1 A B hi x1 e0 e59 e63 fA fB
    have ei : i = N := by omega
    subst ei
    refine ok_iload dX5_walks_94 rfl ?_
    refine ok_aload_n dX5_walks_96 rfl rfl ?_
    refine ok_get dX5_walks_97 fl_X5_104 (by assumption) (by rfl) ?_
    refine okN_icmp_ge (tgt := 131) dX5_walks_100 (by decide) (by omega) (by omega) (fun c1 => ?_) (fun c1 => ?_)
    · refine k h1 B _ x1 e0 ?_ e63 fB
      rw [show A = fun _ => 0 from funext (fun x => by
        rw [fA x]
        by_cases z : x < i
        · rw [if_pos z]
        · rw [if_neg z, hT x (by omega)])] at e59
      exact e59
    · exact absurd c1 (by omega)
  | succ d ih =>
    intro i h1 A B hi x1 e0 e59 e63 fA fB
    refine ok_iload dX5_walks_94 rfl ?_
    refine ok_aload_n dX5_walks_96 rfl rfl ?_
    refine ok_get dX5_walks_97 fl_X5_104 (by assumption) (by rfl) ?_
    refine okN_icmp_ge (tgt := 131) dX5_walks_100 (by decide) (by omega) (by omega) (fun c1 => ?_) (fun c1 => ?_)
    · exact absurd c1 (by omega)
    · refine ok_aload_n dX5_walks_103 rfl rfl ?_
      refine ok_get dX5_walks_104 fl_X5_63 (by assumption) (by rfl) ?_
      refine ok_iload dX5_walks_107 rfl ?_
      refine ok_aload_n dX5_walks_109 rfl rfl ?_
      refine ok_get dX5_walks_110 fl_X5_50 (by assumption) (by rfl) ?_
      refine ok_iload dX5_walks_113 rfl ?_
      refine okN_lald dX5_walks_115 (by assumption) (by omega) (by decide) ?_
      refine okN_last dX5_walks_116 (by assumption) (by omega) (by decide) (fun h2 hx2 he2 => ?_)
      have e02 := hx2.at (by decide) e0
      have e592 := hx2.at (by decide) e59
      refine ok_aload_n dX5_walks_117 rfl rfl ?_
      refine ok_get dX5_walks_118 fl_X5_50 (by assumption) (by rfl) ?_
      refine ok_iload dX5_walks_121 rfl ?_
      refine ok_lconst (v := 0) dX5_walks_123 (by decide) ?_
      refine okN_last dX5_walks_124 (by assumption) (by omega) (by decide) (fun h3 hx3 he3 => ?_)
      refine okN_inc dX5_walks_125 rfl (st_6_5 rfl) (Nat.le_of_ble_eq_true rfl) ?_
      refine ok_goto (tgt := 94) dX5_walks_128 (by decide) ?_
      refine ih (i + 1) h3 _ _ (by omega) ((x1.tr hx2 (C := [59, 63]) (by simp) (by simp)).tr hx3 (by simp) (by simp)) (hx3.at (by decide) e02) he3 (hx3.at (by decide) he2) (fun x => ?_) (fun x hx5 => ?_)
      · by_cases z : x = i
        · rw [z, up_eq, if_pos (by omega)]
        · rw [up_ne z, fA x]
          by_cases y : x < i
          · rw [if_pos y, if_pos (by omega)]
          · rw [if_neg y, if_neg (by omega)]
      · by_cases z : x = i
        · rw [z, up_eq, fA i, if_neg (by omega)]
        · rw [up_ne z, fB x (by omega)]
theorem l_X5_wk2 {a b kk t n : Nat} {T B : Nat → Int64} (hn : n < 19) (fB : ∀ x, x < cap n n → B x = T x)
    (k : ∀ h' A sz' kd' z, hx wkX h h' → MI h' S sz' (nI n) (cap n n) kd' → hc h' 59 = some (aJ 385 A) → (∀ x, A x = acT n T (cap n n) x) → Ok g MX5_walks (m_J g MX5_walks Q) 174 [some (.ref 46), some (.int (nI a)), some (.int (nI b)), some (.int (nI kk)), some (.int (nI t)), z] [] h' 0 0) :
    ∀ (d i : Nat) (h1 : mH) (A : Nat → Int64) (sz1 : Nat) (kd1 : Int32), i + d = cap n n → hx wkX h h1 → MI h1 S sz1 (nI n) (cap n n) kd1 → hc h1 59 = some (aJ 385 A) → hc h1 63 = some (aJ 385 B) → (∀ x, A x = acT n T i x) → Ok g MX5_walks (m_J g MX5_walks Q) 134 [some (.ref 46), some (.int (nI a)), some (.int (nI b)), some (.int (nI kk)), some (.int (nI t)), some (.int (nI i))] [] h1 0 0 := by
  have cl := cap_lt hn hn
  intro d
  induction d with
  | zero =>
    intro i h1 A sz1 kd1 hi x1 I1 e59 e63 fA
    have ei : i = cap n n := by omega
    subst ei
    have e01 := I1.1
    refine ok_iload dX5_walks_134 rfl ?_
    refine ok_aload_n dX5_walks_136 rfl rfl ?_
    refine ok_get dX5_walks_137 fl_X5_104 (by assumption) (by rfl) ?_
    refine okN_icmp_ge (tgt := 174) dX5_walks_140 (by decide) (by omega) (by omega) (fun c1 => ?_) (fun c1 => ?_)
    · exact k h1 A sz1 kd1 _ x1 I1 e59 fA
    · exact absurd c1 (by omega)
  | succ d ih =>
    intro i h1 A sz1 kd1 hi x1 I1 e59 e63 fA
    have e01 := I1.1
    refine ok_iload dX5_walks_134 rfl ?_
    refine ok_aload_n dX5_walks_136 rfl rfl ?_
    refine ok_get dX5_walks_137 fl_X5_104 (by assumption) (by rfl) ?_
    refine okN_icmp_ge (tgt := 174) dX5_walks_140 (by decide) (by omega) (by omega) (fun c1 => ?_) (fun c1 => ?_)
    · exact absurd c1 (by omega)
    · refine ok_aload_n dX5_walks_143 rfl rfl ?_
      refine ok_get dX5_walks_144 fl_X5_63 (by assumption) (by rfl) ?_
      refine ok_iload dX5_walks_147 rfl ?_
      refine okN_lald dX5_walks_149 (by assumption) (by omega) (by decide) ?_
      refine ok_lconst (v := 0) dX5_walks_150 (by decide) ?_
      refine ok_lcmp dX5_walks_151 ?_
      rw [fB i c1]
      refine ok_if_le (tgt := 168) dX5_walks_152 (by decide) (fun c2 => ?_) (fun c2 => ?_)
      · rw [cg0] at c2
        refine okN_inc dX5_walks_168 rfl (st_6_5 rfl) (Nat.le_of_ble_eq_true rfl) ?_
        refine ok_goto (tgt := 134) dX5_walks_171 (by decide) ?_
        refine ih (i + 1) h1 A sz1 kd1 (by omega) x1 I1 e59 e63 (fun x => ?_)
        show A x = acT n T i x + (if 0 < T i then T i * lN (WT (wr n i) x) else 0)
        rw [if_neg c2, Int64.add_zero, fA x]
      · rw [cg0, Classical.not_not] at c2
        refine ok_aload_n dX5_walks_155 rfl rfl ?_
        refine ok_iload dX5_walks_156 rfl ?_
        refine ok_aload_n dX5_walks_158 rfl rfl ?_
        refine ok_get dX5_walks_159 fl_X5_63 (by assumption) (by rfl) ?_
        refine ok_iload dX5_walks_162 rfl ?_
        refine okN_lald dX5_walks_164 (by assumption) (by omega) (by decide) ?_
        rw [fB i c1]
        refine call_X5_addWays dX5_walks_165 lk_X5_159 ⟨Nat.le_of_ble_eq_true rfl, Nat.le_of_ble_eq_true rfl, Nat.le_of_ble_eq_true rfl⟩ (by assumption) (Nat.le_of_ble_eq_true rfl) ?_
        refine c_X5_addWays I1 hn c1 e59 (fun h2 sz2 kd2 T2 x2 I2 e592 f2 => ?_)
        refine okN_inc dX5_walks_168 rfl (st_6_5 rfl) (Nat.le_of_ble_eq_true rfl) ?_
        refine ok_goto (tgt := 134) dX5_walks_171 (by decide) ?_
        refine ih (i + 1) h2 T2 sz2 kd2 (by omega) (x1.tr x2 (by simp) (by simp)) I2 e592 (x2.at (by decide) e63) (fun x => ?_)
        show T2 x = acT n T i x + (if 0 < T i then T i * lN (WT (wr n i) x) else 0)
        rw [if_pos c2, f2 x, fA x]
theorem l_X5_wk3 {a b kk n f : Nat} (hn : n < 19) (hf : f < cap n n) (hk : kk < 2 ^ 31)
    (k : ∀ h' A sz' kd' z z', hx wkX h h' → MI h' S sz' (nI n) (cap n n) kd' → hc h' 59 = some (aJ 385 A) → (∀ x, A x = wkT n f kk x) → Ok g MX5_walks (m_J g MX5_walks Q) 180 [some (.ref 46), some (.int (nI a)), some (.int (nI b)), some (.int (nI kk)), z, z'] [] h' 0 0) :
    ∀ (d t : Nat) (h1 : mH) (A : Nat → Int64) (sz1 : Nat) (kd1 : Int32) (z5 : Option Value), t + d = kk → hx wkX h h1 → MI h1 S sz1 (nI n) (cap n n) kd1 → hc h1 59 = some (aJ 385 A) → (∀ x, A x = wkT n f t x) → Ok g MX5_walks (m_J g MX5_walks Q) 85 [some (.ref 46), some (.int (nI a)), some (.int (nI b)), some (.int (nI kk)), some (.int (nI t)), z5] [] h1 0 0 := by
  have cl := cap_lt hn hn
  intro d
  induction d with
  | zero =>
    intro t h1 A sz1 kd1 z5 ht x1 I1 e59 fA
    have et : t = kk := by omega
    subst et
    refine ok_iload dX5_walks_85 rfl ?_
    refine ok_iload_n dX5_walks_87 rfl ?_
    refine okN_icmp_ge (tgt := 180) dX5_walks_88 (by decide) (by omega) (by omega) (fun c1 => ?_) (fun c1 => ?_)
    · exact k h1 A sz1 kd1 _ _ x1 I1 e59 fA
    · exact absurd c1 (by omega)
  | succ d ih =>
    intro t h1 A sz1 kd1 z5 ht x1 I1 e59 fA
    have e01 := I1.1
    obtain ⟨B0, e63⟩ := I1.2.2.2.2.2.1.2.2.2.2.2
    refine ok_iload dX5_walks_85 rfl ?_
    refine ok_iload_n dX5_walks_87 rfl ?_
    refine okN_icmp_ge (tgt := 180) dX5_walks_88 (by decide) (by omega) (by omega) (fun c1 => ?_) (fun c1 => ?_)
    · exact absurd c1 (by omega)
    · refine ok_iconst (v := nI 0) dX5_walks_91 (by decide) ?_
      refine ok_istore dX5_walks_92 (st_6_5 rfl) (Nat.le_of_ble_eq_true rfl) ?_
      refine l_X5_wk1 (h := h1) (T := A) cl (fun x hx5 => by rw [fA x]; exact wkT_hi hn hf t x hx5) (fun h2 B z x2 e02 e592 e632 fB => ?_) (cap n n) 0 h1 A B0 (by omega) hx.rf e01 e59 e63 (fun x => by rw [if_neg (by omega)]) (fun x hx5 => by omega)
      have I2 : MI h2 S sz1 (nI n) (cap n n) kd1 := by
        obtain ⟨-, k1, k2, k3, k4, ⟨r1, r2, r3, r4, r5, r6⟩, k6, k7⟩ := I1
        exact ⟨e02, k1.at x2 (by decide), k2.at x2 (by decide), k3.at x2 (by decide), k4.at x2 (by decide) (by decide), ⟨r1.at x2 (by decide), r2.at x2 (by decide), fun a l1 l2 => (r3 a l1 l2).at x2 (by simp <;> omega), ⟨_, e592⟩, fun a l1 l2 => (r5 a l1 l2).at x2 (by simp <;> omega), ⟨_, e632⟩⟩, k6, k7⟩
      refine ok_iconst (v := nI 0) dX5_walks_131 (by decide) ?_
      refine ok_istore dX5_walks_132 (st_6_5 rfl) (Nat.le_of_ble_eq_true rfl) ?_
      refine l_X5_wk2 (h := h2) (T := A) (B := B) hn fB (fun h3 A3 sz3 kd3 z3 x3 I3 e593 f3 => ?_) (cap n n) 0 h2 _ sz1 kd1 (by omega) hx.rf I2 e592 e632 (fun x => rfl)
      refine okN_inc dX5_walks_174 rfl (st_6_4 rfl) (Nat.le_of_ble_eq_true rfl) ?_
      refine ok_goto (tgt := 85) dX5_walks_177 (by decide) ?_
      refine ih (t + 1) h3 A3 sz3 kd3 _ (by omega) ((x1.tr x2 (C := wkX) (by simp) (by simp)).tr' x3) I3 e593 (fun x => ?_)
      rw [f3 x]
      exact acT_cg fA _ x
theorem s_wk_wk (S : ST) (a b : Int64) : s_wk (s_wk S a) b = s_wk S b := rfl
theorem p_X5_walks {p q kw : Int32} (I : IM h S) (k : ∀ h', fM h h' → IM h' (sp_walks S p q kw).2 → Q (some (.int (sp_walks S p q kw).1)) h') : Ok g MX5_walks (m_J g MX5_walks Q) 0 [some (.ref 46), some (.int p), some (.int q), some (.int kw), none, none] [] h 0 0 := by
  obtain ⟨sz, li, lz, kd, I⟩ := I
  obtain ⟨e0, -, ⟨F, e1, f1⟩, ⟨G, e2, g2⟩, -, -, k6, k7⟩ := id I
  have out : (sp_walks S p q kw) = (-1, S) → Ok g MX5_walks (m_J g MX5_walks Q) 23 [some (.ref 46), some (.int p), some (.int q), some (.int kw), none, none] [] h 0 0 := by
    intro e
    rw [e] at k
    refine ok_iconst (v := -1) dX5_walks_23 (by decide) ?_
    refine ok_iret dX5_walks_24 rfl rfl ⟨Nat.le_of_ble_eq_true rfl, Nat.le_of_ble_eq_true rfl⟩ ?_
    exact k h fM.rf ⟨_, _, _, _, I⟩
  refine ok_iload_n dX5_walks_0 rfl ?_
  refine call_X5_isParting dX5_walks_1 lk_X5_73 ⟨Nat.le_of_ble_eq_true rfl, Nat.le_of_ble_eq_true rfl, Nat.le_of_ble_eq_true rfl⟩ (Nat.le_of_ble_eq_true rfl) ?_
  refine c_X5_isParting (fun a q1 q2 q3 => ?_) (fun z => ?_)
  · refine okN_if_eq (tgt := 23) dX5_walks_4 (by decide) (by omega) (fun c1 => ?_) (fun c1 => ?_)
    · exact absurd c1 (by decide)
    · refine ok_iload_n dX5_walks_7 rfl ?_
      refine call_X5_isParting dX5_walks_8 lk_X5_73 ⟨Nat.le_of_ble_eq_true rfl, Nat.le_of_ble_eq_true rfl, Nat.le_of_ble_eq_true rfl⟩ (Nat.le_of_ble_eq_true rfl) ?_
      refine c_X5_isParting (fun b p1 p2 p3 => ?_) (fun z => ?_)
      · refine okN_if_eq (tgt := 23) dX5_walks_11 (by decide) (by omega) (fun c2 => ?_) (fun c2 => ?_)
        · exact absurd c2 (by decide)
        · refine ok_iload_n dX5_walks_14 rfl ?_
          refine ok_iconst (v := nI 0) dX5_walks_15 (by decide) ?_
          refine ok_iconst (v := nI 3) dX5_walks_16 (by decide) ?_
          refine call_X5_in dX5_walks_17 lk_X5_69 ⟨Nat.le_of_ble_eq_true rfl, Nat.le_of_ble_eq_true rfl, Nat.le_of_ble_eq_true rfl⟩ (Nat.le_of_ble_eq_true rfl) ?_
          refine c_X5_inP (n := 4) (by decide) (by decide) (fun m w1 w2 w3 => ?_) (fun z => ?_)
          · refine okN_if_ne (tgt := 25) dX5_walks_20 (by decide) (by omega) (fun c3 => ?_) (fun c3 => ?_)
            · unfold sp_walks of2 at k
              rw [w1, q1, p1] at k
              dsimp only at k
              subst q3
              subst p3
              subst w3
              have bad : ¬ (S.1 a = true ∧ S.1 b = true) → Ok g MX5_walks (m_J g MX5_walks Q) 43 [some (.ref 46), some (.int (nI a)), some (.int (nI b)), some (.int (nI m)), none, none] [] h 0 0 := by
                intro hn
                rw [if_neg hn] at k
                refine ok_aload_n dX5_walks_43 rfl rfl ?_
                refine ok_iconst (v := nI 1) dX5_walks_44 (by decide) ?_
                refine call_X5_meets dX5_walks_45 lk_X5_77 ⟨Nat.le_of_ble_eq_true rfl, Nat.le_of_ble_eq_true rfl, Nat.le_of_ble_eq_true rfl⟩ (by assumption) (Nat.le_of_ble_eq_true rfl) ?_
                refine c_X5_meets I (by decide) (fun h' x' I' => ?_)
                refine ok_iret dX5_walks_48 rfl rfl ⟨Nat.le_of_ble_eq_true rfl, Nat.le_of_ble_eq_true rfl⟩ ?_
                exact k h' (x'.m (by decide)) ⟨_, _, _, _, I'⟩
              refine ok_aload_n dX5_walks_25 rfl rfl ?_
              refine ok_get dX5_walks_26 fl_X5_13 (by assumption) (by rfl) ?_
              refine ok_iload_n dX5_walks_29 rfl ?_
              first | refine okN_iald dX5_walks_30 (by assumption) (by omega) (by decide) ?_ | refine okF_iald dX5_walks_30 (by assumption) (by omega) (by omega) ?_ | refine okN_kald dX5_walks_30 (by assumption) (by omega) (by decide) ?_
              rw [f1 a q2]
              cases hta : S.1 a with
              | false =>
                rw [if_neg (by decide)]
                refine ok_if_lt (tgt := 43) dX5_walks_31 (by decide) (fun c4 => ?_) (fun c4 => ?_)
                · exact bad (fun z => by rw [hta] at z; exact absurd z.1 (by decide))
                · exact absurd (by decide) c4
              | true =>
                rw [if_pos rfl]
                have ola := k6 a q2 hta
                have hla := ola.len
                have hsa := ola.2.2
                refine okN_if_lt (tgt := 43) dX5_walks_31 (by decide) (by omega) ?_
                refine ok_aload_n dX5_walks_34 rfl rfl ?_
                refine ok_get dX5_walks_35 fl_X5_13 (by assumption) (by rfl) ?_
                refine ok_iload_n dX5_walks_38 rfl ?_
                first | refine okN_iald dX5_walks_39 (by assumption) (by omega) (by decide) ?_ | refine okF_iald dX5_walks_39 (by assumption) (by omega) (by omega) ?_ | refine okN_kald dX5_walks_39 (by assumption) (by omega) (by decide) ?_
                rw [f1 b p2]
                cases htb : S.1 b with
                | false =>
                  rw [if_neg (by decide)]
                  refine ok_if_ge (tgt := 49) dX5_walks_40 (by decide) (fun c5 => ?_) (fun c5 => ?_)
                  · exact absurd c5 (by decide)
                  · exact bad (fun z => by rw [htb] at z; exact absurd z.2 (by decide))
                | true =>
                  rw [if_pos rfl]
                  have olb := k6 b p2 htb
                  have hlb := olb.len
                  have hsb := olb.2.2
                  rw [if_pos ⟨hta, htb⟩] at k
                  refine okN_if_ge (tgt := 49) dX5_walks_40 (by decide) (by omega) ?_
                  refine ok_aload_n dX5_walks_49 rfl rfl ?_
                  refine ok_lconst (v := 0) dX5_walks_50 (by decide) ?_
                  refine okR_put dX5_walks_51 fl_X5_163 (by assumption) (Nat.le_of_ble_eq_true rfl) (fun _ => ⟨rfl, rfl⟩) set_24_2 (fun h1 hx1 he1 => ?_)
                  have I1 : MI h1 (s_wk S 0) sz li lz kd := I.setK hx1 he1
                  refine ok_aload_n dX5_walks_54 rfl rfl ?_
                  refine ok_iload_n dX5_walks_55 rfl ?_
                  refine call_X5_cards dX5_walks_56 lk_X5_84 ⟨Nat.le_of_ble_eq_true rfl, Nat.le_of_ble_eq_true rfl, Nat.le_of_ble_eq_true rfl⟩ (by assumption) (Nat.le_of_ble_eq_true rfl) ?_
                  refine c_X5_cards I1 q2 hta ?_
                  refine ok_aload_n dX5_walks_59 rfl rfl ?_
                  refine ok_iload_n dX5_walks_60 rfl ?_
                  refine call_X5_cards dX5_walks_61 lk_X5_84 ⟨Nat.le_of_ble_eq_true rfl, Nat.le_of_ble_eq_true rfl, Nat.le_of_ble_eq_true rfl⟩ (by assumption) (Nat.le_of_ble_eq_true rfl) ?_
                  refine c_X5_cards I1 p2 htb ?_
                  dsimp only [m_push]
                  have sa : (s_wk S 0).2.1 = S.2.1 := rfl
                  rw [sa]
                  refine okN_icmp_ne (tgt := 194) dX5_walks_64 (by decide) (by omega) (by omega) (fun c6 => ?_) (fun c6 => ?_)
                  · rw [if_neg c6] at k
                    refine ok_iconst (v := nI 1) dX5_walks_194 (by decide) ?_
                    refine ok_iret dX5_walks_195 rfl rfl ⟨Nat.le_of_ble_eq_true rfl, Nat.le_of_ble_eq_true rfl⟩ ?_
                    exact k h1 (hx1.m (by decide)) ⟨_, _, _, _, I1⟩
                  · rw [if_pos c6] at k
                    refine ok_aload_n dX5_walks_67 rfl rfl ?_
                    refine call_X5_noWays dX5_walks_68 lk_X5_156 ⟨Nat.le_of_ble_eq_true rfl, Nat.le_of_ble_eq_true rfl, Nat.le_of_ble_eq_true rfl⟩ (by assumption) (Nat.le_of_ble_eq_true rfl) ?_
                    refine c_X5_noWays I1 (fun h2 x2 I2 e592 => ?_)
                    have e02 := I2.1
                    refine ok_aload_n dX5_walks_71 rfl rfl ?_
                    refine ok_get dX5_walks_72 fl_X5_50 (by assumption) (by rfl) ?_
                    refine ok_aload_n dX5_walks_75 rfl rfl ?_
                    refine ok_iload_n dX5_walks_76 rfl ?_
                    refine call_X5_rankOf dX5_walks_77 lk_X5_125 ⟨Nat.le_of_ble_eq_true rfl, Nat.le_of_ble_eq_true rfl, Nat.le_of_ble_eq_true rfl⟩ (by assumption) (Nat.le_of_ble_eq_true rfl) ?_
                    refine c_X5_rankOf I2 q2 hta (fun h3 x3 I3 R3 => ?_)
                    rw [sa] at I3
                    have e593 := x3.at (by decide) e592
                    have nlt := nb_lt ola
                    have nltb := nb_lt olb
                    have cl := cap_lt (n := (S.2.1 a).sum) (m := (S.2.1 a).sum) (by omega) (by omega)
                    have clb := cap_lt (n := (S.2.1 b).sum) (m := (S.2.1 b).sum) (by omega) (by omega)
                    dsimp only [m_push]
                    rw [sa]
                    refine ok_lconst (v := 1) dX5_walks_80 (by decide) ?_
                    refine okN_last dX5_walks_81 (by assumption) (by omega) (by decide) (fun h4 hx4 he4 => ?_)
                    have I4 : MI h4 (s_wk S 0) (S.2.1 a).length (nI (S.2.1 a).sum) (cap (S.2.1 a).sum (S.2.1 a).sum) kd := by
                      obtain ⟨z0, z1, z2, z3, z4, ⟨r1, r2, r3, r4, r5, r6⟩, z6, z7⟩ := I3
                      exact ⟨hx4.at (by decide) z0, z1.at hx4 (by decide), z2.at hx4 (by decide), z3.at hx4 (by decide), z4.at hx4 (by decide) (by decide), ⟨r1.at hx4 (by decide), r2.at hx4 (by decide), fun a l1 l2 => (r3 a l1 l2).at hx4 (by simp <;> omega), ⟨_, he4⟩, fun a l1 l2 => (r5 a l1 l2).at hx4 (by simp <;> omega), r6.at hx4 (by decide)⟩, z6, z7⟩
                    refine ok_iconst (v := nI 0) dX5_walks_82 (by decide) ?_
                    refine ok_istore dX5_walks_83 (st_6_4 rfl) (Nat.le_of_ble_eq_true rfl) ?_
                    have x04 : hx wkX h h4 := ((hx1.tr x2 (C := wkX) (by simp) (by simp)).tr x3 (C := wkX) (by simp) (by simp)).tr hx4 (by simp) (by simp)
                    refine l_X5_wk3 (h := h4) (n := (S.2.1 a).sum) (f := nb (S.2.1 a)) (by omega) nlt (by omega) (fun h5 A sz5 kd5 z4 z5 x5 I5 e595 f5 => ?_) m 0 h4 _ _ _ _ (by omega) hx.rf I4 he4 (fun x => ?_)
                    · have e05 := I5.1
                      refine ok_aload_n dX5_walks_180 rfl rfl ?_
                      refine ok_aload_n dX5_walks_181 rfl rfl ?_
                      refine ok_get dX5_walks_182 fl_X5_50 (by assumption) (by rfl) ?_
                      refine ok_aload_n dX5_walks_185 rfl rfl ?_
                      refine ok_iload_n dX5_walks_186 rfl ?_
                      refine call_X5_rankOf dX5_walks_187 lk_X5_125 ⟨Nat.le_of_ble_eq_true rfl, Nat.le_of_ble_eq_true rfl, Nat.le_of_ble_eq_true rfl⟩ (by assumption) (Nat.le_of_ble_eq_true rfl) ?_
                      refine c_X5_rankOf I5 p2 htb (fun h6 x6 I6 R6 => ?_)
                      have e596 := x6.at (by decide) e595
                      have e06 := I6.1
                      dsimp only [m_push]
                      rw [sa]
                      refine okN_lald dX5_walks_190 (by assumption) (by omega) (by decide) ?_
                      refine okR_put dX5_walks_191 fl_X5_163 (by assumption) (Nat.le_of_ble_eq_true rfl) (fun _ => ⟨rfl, rfl⟩) set_24_2 (fun h7 hx7 he7 => ?_)
                      refine ok_iconst (v := nI 1) dX5_walks_194 (by decide) ?_
                      refine ok_iret dX5_walks_195 rfl rfl ⟨Nat.le_of_ble_eq_true rfl, Nat.le_of_ble_eq_true rfl⟩ ?_
                      have I7 := I6.setK hx7 he7
                      rw [s_wk_wk, f5] at I7
                      exact k h7 (((x04.tr' x5).tr x6 (C := wkX) (by simp) (by simp)).tr hx7 (C := wkX) (by simp) (by simp) |>.m (by decide)) ⟨_, _, _, _, I7⟩
                    · show up (fun _ => (0 : Int64)) (nb (S.2.1 a)) 1 x = (if x = nb (S.2.1 a) then 1 else 0)
                      by_cases z : x = nb (S.2.1 a)
                      · rw [if_pos z, z, up_eq]
                      · rw [if_neg z, up_ne z]
            · exact absurd c3 (by decide)
          · have ek : sp_walks S p q kw = (-1, S) := by
              unfold sp_walks
              rw [z]
            refine okN_if_ne (tgt := 25) dX5_walks_20 (by decide) (by omega) (fun c3 => ?_) (fun c3 => ?_)
            · exact absurd c3 (by decide)
            · exact out ek
      · have ek : sp_walks S p q kw = (-1, S) := by
          unfold sp_walks of2
          rw [q1, z]
          cases pl 4 kw <;> rfl
        refine okN_if_eq (tgt := 23) dX5_walks_11 (by decide) (by omega) (fun c2 => ?_) (fun c2 => ?_)
        · exact out ek
        · exact absurd c2 (by decide)
  · have ek : sp_walks S p q kw = (-1, S) := by
      unfold sp_walks of2
      rw [z]
      cases pl 4 kw <;> rfl
    refine okN_if_eq (tgt := 23) dX5_walks_4 (by decide) (by omega) (fun c1 => ?_) (fun c1 => ?_)
    · exact out ek
    · exact absurd c1 (by decide)
end MWAYSR
