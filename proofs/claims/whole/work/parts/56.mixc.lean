/-! ===== the class's Mixer ===== -/
abbrev mxo (u v : Nat) : mE := .inr (2, [.ref 7, .ref 8, .ref 9, .ref 10, .ref 11, .ref 13, .ref u, .ref v])
def asc (H : Nat → Nat) : Nat → Nat → List (Nat × Nat)
  | 0, _ => []
  | f + 1, c => (c, H c) :: asc H f (c + 1)
theorem asc_C (H : Nat → Nat) : asc H 18 1 = (dsC H 18).reverse := rfl
theorem lt_2 : ∀ n, n < 19 → n + 1 ≤ 2 ^ n := by decide
theorem PD_le {H : Nat → Nat} (hH : ∀ c, H c ≤ 18) : ∀ n, PD (dsC H n) ≤ 2 ^ gvN H n
  | 0 => Nat.le_refl _
  | n + 1 => by
    show PD (dsC H n) * (H (n + 1) + 1) ≤ 2 ^ (gvN H n + H (n + 1))
    rw [Nat.pow_add]
    exact Nat.mul_le_mul (PD_le hH n) (lt_2 _ (by have := hH (n + 1); omega))
theorem cg0 {x : Int64} : lg_cmp x 0 ≤ 0 ↔ ¬ 0 < x := by
  rw [lg_cmp_le, Int64.le_iff_toInt_le, Int64.lt_iff_toInt_lt]
  omega
section MIXC
variable {g : mG} {h : mH} {Q : Option Value → mH → Prop} {nw lt : Nat} {H W : Nat → Nat}
theorem c_X2_chosenAt {n m : Nat} (ea : hc h 6 = some (mxo nw lt)) (eb : hc h 7 = some (aI 361 choF)) (hn : n < 19) (hm : m < 19) (k : Q (some (.int (nI (cho n m)))) h) : Ok g MX2_chosenAt (m_J g MX2_chosenAt Q) 0 [some (.ref 6), some (.int (nI n)), some (.int (nI m))] [] h 0 0 := by
  refine ok_iload_n dX2_chosenAt_0 rfl ?_
  refine okN_if_lt (tgt := 34) dX2_chosenAt_1 (by decide) (by omega) ?_
  refine ok_iload_n dX2_chosenAt_4 rfl ?_
  refine ok_bipush (v := nI 19) dX2_chosenAt_5 (by decide) ?_
  refine okN_icmp_ge (tgt := 34) dX2_chosenAt_7 (by decide) (by omega) (by omega) (fun c2 => ?_) (fun c2 => ?_)
  · exact absurd c2 (by omega)
  · refine ok_iload_n dX2_chosenAt_10 rfl ?_
    refine okN_if_lt (tgt := 34) dX2_chosenAt_11 (by decide) (by omega) ?_
    refine ok_iload_n dX2_chosenAt_14 rfl ?_
    refine ok_bipush (v := nI 19) dX2_chosenAt_15 (by decide) ?_
    refine okN_icmp_ge (tgt := 34) dX2_chosenAt_17 (by decide) (by omega) (by omega) (fun c4 => ?_) (fun c4 => ?_)
    · exact absurd c4 (by omega)
    · refine ok_aload_n dX2_chosenAt_20 rfl rfl ?_
      refine ok_get dX2_chosenAt_21 fl_X2_9 (by assumption) (by rfl) ?_
      refine ok_iload_n dX2_chosenAt_24 rfl ?_
      refine ok_bipush (v := nI 19) dX2_chosenAt_25 (by decide) ?_
      first | refine okN_imul dX2_chosenAt_27 ?_ | refine ok_imul dX2_chosenAt_27 ?_
      refine ok_iload_n dX2_chosenAt_28 rfl ?_
      first | refine okN_iadd dX2_chosenAt_29 ?_ | refine ok_iadd dX2_chosenAt_29 ?_
      first | refine okN_iald dX2_chosenAt_30 (by assumption) (by omega) (by decide) ?_ | refine okF_iald dX2_chosenAt_30 (by assumption) (by omega) (by omega) ?_ | refine okN_kald dX2_chosenAt_30 (by assumption) (by omega) (by decide) ?_
      refine ok_goto (tgt := 35) dX2_chosenAt_31 (by decide) ?_
      refine ok_iret dX2_chosenAt_35 rfl rfl ⟨Nat.le_of_ble_eq_true rfl, Nat.le_of_ble_eq_true rfl⟩ ?_
      exact k
theorem l_X2_choicesGiving {gi n : Nat} (hgi : gi < 2 ^ 31) (hH : ∀ c, H c ≤ 18) (hW : ∀ c, W c ≤ 18) (ea : hc h 6 = some (mxo nw lt)) (eb : hc h 7 = some (aI 361 choF)) (e8 : hc h 8 = some (aI 20 H)) (e10 : hc h 10 = some (aI 20 W)) :
    ∀ (c P s f : Nat) (z : Option Value), c ≤ 18 → f ≤ 18 → s + 18 * c ≤ 1000 → Q (some (.int (nI (cgN H W gi c P s f)))) h → Ok g MX2_choicesGiving (m_J g MX2_choicesGiving Q) 16 [some (.ref 6), some (.int (nI gi)), some (.int (nI n)), some (.int (nI P)), some (.int (nI s)), some (.int (nI f)), some (.int (nI c)), z] [] h 0 0 := by
  intro c
  induction c with
  | zero =>
    intro P s f z hc hf hs k
    unfold cgN at k
    refine ok_iload dX2_choicesGiving_16 rfl ?_
    refine okN_if_le (tgt := 105) dX2_choicesGiving_18 (by decide) (by omega) (fun c1 => ?_) (fun c1 => ?_)
    · refine ok_iload dX2_choicesGiving_105 rfl ?_
      refine ok_iload_n dX2_choicesGiving_107 rfl ?_
      refine okN_icmp_ne (tgt := 115) dX2_choicesGiving_108 (by decide) (by omega) (by omega) (fun c2 => ?_) (fun c2 => ?_)
      · rw [if_neg c2] at k
        refine ok_iconst (v := nI 0) dX2_choicesGiving_115 (by decide) ?_
        refine ok_iret dX2_choicesGiving_116 rfl rfl ⟨Nat.le_of_ble_eq_true rfl, Nat.le_of_ble_eq_true rfl⟩ ?_
        exact k
      · rw [if_pos c2] at k
        refine ok_iload_n dX2_choicesGiving_111 rfl ?_
        refine ok_goto (tgt := 116) dX2_choicesGiving_112 (by decide) ?_
        refine ok_iret dX2_choicesGiving_116 rfl rfl ⟨Nat.le_of_ble_eq_true rfl, Nat.le_of_ble_eq_true rfl⟩ ?_
        exact k
    · exact absurd c1 (by omega)
  | succ c ih =>
    intro P s f z hc hf hs k
    have h1 := hH (c + 1)
    have h2 := hW (c + 1)
    unfold cgN at k
    have rest : ∀ e, e = (if c + 1 = gi then 1 else 0) → e ≤ 1 → Ok g MX2_choicesGiving (m_J g MX2_choicesGiving Q) 42 [some (.ref 6), some (.int (nI gi)), some (.int (nI n)), some (.int (nI P)), some (.int (nI s)), some (.int (nI f)), some (.int (nI (c + 1))), z] [.int (nI e), .int (nI (H (c + 1) + f))] h 0 0 := by
      intro e he he1
      rw [← he] at k
      clear he
      have bad : Q (some (.int (nI 0))) h → Ok g MX2_choicesGiving (m_J g MX2_choicesGiving Q) 70 [some (.ref 6), some (.int (nI gi)), some (.int (nI n)), some (.int (nI P)), some (.int (nI s)), some (.int (nI f)), some (.int (nI (c + 1))), none] [] h 0 0 := by
        intro k0
        refine ok_iconst (v := nI 0) dX2_choicesGiving_70 (by decide) ?_
        refine ok_iret dX2_choicesGiving_71 rfl rfl ⟨Nat.le_of_ble_eq_true rfl, Nat.le_of_ble_eq_true rfl⟩ ?_
        exact k0
      first | refine okN_iadd dX2_choicesGiving_42 ?_ | refine ok_iadd dX2_choicesGiving_42 ?_
      refine ok_aload_n dX2_choicesGiving_43 rfl rfl ?_
      refine ok_get dX2_choicesGiving_44 fl_X2_21 (by assumption) (by rfl) ?_
      refine ok_iload dX2_choicesGiving_47 rfl ?_
      first | refine okN_iald dX2_choicesGiving_49 (by assumption) (by omega) (by decide) ?_ | refine okF_iald dX2_choicesGiving_49 (by assumption) (by omega) (by omega) ?_ | refine okN_kald dX2_choicesGiving_49 (by assumption) (by omega) (by decide) ?_
      by_cases z1 : W (c + 1) ≤ H (c + 1) + f + e
      · first | refine okN_isub dX2_choicesGiving_50 (by omega) ?_ | refine ok_isub dX2_choicesGiving_50 ?_
        refine ok_istore dX2_choicesGiving_51 (st_8_7 rfl) (Nat.le_of_ble_eq_true rfl) ?_
        refine ok_iload dX2_choicesGiving_53 rfl ?_
        refine okN_if_lt (tgt := 70) dX2_choicesGiving_55 (by decide) (by omega) ?_
        refine ok_iload dX2_choicesGiving_58 rfl ?_
        refine ok_aload_n dX2_choicesGiving_60 rfl rfl ?_
        refine ok_get dX2_choicesGiving_61 fl_X2_15 (by assumption) (by rfl) ?_
        refine ok_iload dX2_choicesGiving_64 rfl ?_
        first | refine okN_iald dX2_choicesGiving_66 (by assumption) (by omega) (by decide) ?_ | refine okF_iald dX2_choicesGiving_66 (by assumption) (by omega) (by omega) ?_ | refine okN_kald dX2_choicesGiving_66 (by assumption) (by omega) (by decide) ?_
        refine okN_icmp_le (tgt := 72) dX2_choicesGiving_67 (by decide) (by omega) (by omega) (fun c2 => ?_) (fun c2 => ?_)
        · rw [if_pos ⟨z1, by omega⟩] at k
          generalize ht : H (c + 1) + f + e - W (c + 1) = t at k c2 ⊢
          refine ok_iload_n dX2_choicesGiving_72 rfl ?_
          refine ok_aload_n dX2_choicesGiving_73 rfl rfl ?_
          refine ok_aload_n dX2_choicesGiving_74 rfl rfl ?_
          refine ok_get dX2_choicesGiving_75 fl_X2_15 (by assumption) (by rfl) ?_
          refine ok_iload dX2_choicesGiving_78 rfl ?_
          first | refine okN_iald dX2_choicesGiving_80 (by assumption) (by omega) (by decide) ?_ | refine okF_iald dX2_choicesGiving_80 (by assumption) (by omega) (by omega) ?_ | refine okN_kald dX2_choicesGiving_80 (by assumption) (by omega) (by decide) ?_
          refine ok_iload dX2_choicesGiving_81 rfl ?_
          refine call_X2_chosenAt dX2_choicesGiving_83 lk_X2_61 ⟨Nat.le_of_ble_eq_true rfl, Nat.le_of_ble_eq_true rfl, Nat.le_of_ble_eq_true rfl⟩ (by assumption) (Nat.le_of_ble_eq_true rfl) ?_
          refine c_X2_chosenAt ea eb (by omega) (by omega) ?_
          dsimp only [m_push]
          first | refine okN_imul dX2_choicesGiving_86 ?_ | refine ok_imul dX2_choicesGiving_86 ?_
          refine ok_istore_n dX2_choicesGiving_87 (st_8_3 rfl) (Nat.le_of_ble_eq_true rfl) ?_
          refine ok_iload dX2_choicesGiving_88 rfl ?_
          refine ok_iload dX2_choicesGiving_90 rfl ?_
          first | refine okN_iadd dX2_choicesGiving_92 ?_ | refine ok_iadd dX2_choicesGiving_92 ?_
          refine ok_istore dX2_choicesGiving_93 (st_8_4 rfl) (Nat.le_of_ble_eq_true rfl) ?_
          refine ok_iload dX2_choicesGiving_95 rfl ?_
          refine ok_istore dX2_choicesGiving_97 (st_8_5 rfl) (Nat.le_of_ble_eq_true rfl) ?_
          refine okN_dec dX2_choicesGiving_99 rfl (by omega) (st_8_6 rfl) (Nat.le_of_ble_eq_true rfl) ?_
          refine ok_goto (tgt := 16) dX2_choicesGiving_102 (by decide) ?_
          exact ih _ _ _ _ (by omega) (by omega) (by omega) k
        · rw [if_neg (by omega)] at k
          refine ok_iconst (v := nI 0) dX2_choicesGiving_70 (by decide) ?_
          refine ok_iret dX2_choicesGiving_71 rfl rfl ⟨Nat.le_of_ble_eq_true rfl, Nat.le_of_ble_eq_true rfl⟩ ?_
          exact k
      · rw [if_neg (by omega)] at k
        refine ok_isub dX2_choicesGiving_50 ?_
        refine ok_istore dX2_choicesGiving_51 (st_8_7 rfl) (Nat.le_of_ble_eq_true rfl) ?_
        refine ok_iload dX2_choicesGiving_53 rfl ?_
        refine ok_if_lt (tgt := 70) dX2_choicesGiving_55 (by decide) (fun c1 => ?_) (fun c1 => ?_)
        · refine ok_iconst (v := nI 0) dX2_choicesGiving_70 (by decide) ?_
          refine ok_iret dX2_choicesGiving_71 rfl rfl ⟨Nat.le_of_ble_eq_true rfl, Nat.le_of_ble_eq_true rfl⟩ ?_
          exact k
        · exact absurd (pk_sneg (by omega) (by omega)) c1
    refine ok_iload dX2_choicesGiving_16 rfl ?_
    refine okN_if_le (tgt := 105) dX2_choicesGiving_18 (by decide) (by omega) (fun c1 => ?_) (fun c1 => ?_)
    · exact absurd c1 (by omega)
    · refine ok_aload_n dX2_choicesGiving_21 rfl rfl ?_
      refine ok_get dX2_choicesGiving_22 fl_X2_15 (by assumption) (by rfl) ?_
      refine ok_iload dX2_choicesGiving_25 rfl ?_
      first | refine okN_iald dX2_choicesGiving_27 (by assumption) (by omega) (by decide) ?_ | refine okF_iald dX2_choicesGiving_27 (by assumption) (by omega) (by omega) ?_ | refine okN_kald dX2_choicesGiving_27 (by assumption) (by omega) (by decide) ?_
      refine ok_iload dX2_choicesGiving_28 rfl ?_
      first | refine okN_iadd dX2_choicesGiving_30 ?_ | refine ok_iadd dX2_choicesGiving_30 ?_
      refine ok_iload dX2_choicesGiving_31 rfl ?_
      refine ok_iload_n dX2_choicesGiving_33 rfl ?_
      refine okN_icmp_ne (tgt := 41) dX2_choicesGiving_34 (by decide) (by omega) (by omega) (fun c2 => ?_) (fun c2 => ?_)
      · refine ok_iconst (v := nI 0) dX2_choicesGiving_41 (by decide) ?_
        exact rest 0 (by rw [if_neg c2]) (by omega)
      · refine ok_iconst (v := nI 1) dX2_choicesGiving_37 (by decide) ?_
        refine ok_goto (tgt := 42) dX2_choicesGiving_38 (by decide) ?_
        exact rest 1 (by rw [if_pos c2]) (by omega)
theorem c_X2_choicesGiving {gi n : Nat} (hgi : gi < 2 ^ 31) (hn : n ≤ 18) (hH : ∀ c, H c ≤ 18) (hW : ∀ c, W c ≤ 18) (ea : hc h 6 = some (mxo nw lt)) (eb : hc h 7 = some (aI 361 choF)) (e8 : hc h 8 = some (aI 20 H)) (e10 : hc h 10 = some (aI 20 W)) (k : Q (some (.int (nI (cgN H W gi n 1 0 0)))) h) : Ok g MX2_choicesGiving (m_J g MX2_choicesGiving Q) 0 [some (.ref 6), some (.int (nI gi)), some (.int (nI n)), none, none, none, none, none] [] h 0 0 := by
  refine ok_iconst (v := nI 1) dX2_choicesGiving_0 (by decide) ?_
  refine ok_istore_n dX2_choicesGiving_1 (st_8_3 rfl) (Nat.le_of_ble_eq_true rfl) ?_
  refine ok_iconst (v := nI 0) dX2_choicesGiving_2 (by decide) ?_
  refine ok_istore dX2_choicesGiving_3 (st_8_4 rfl) (Nat.le_of_ble_eq_true rfl) ?_
  refine ok_iconst (v := nI 0) dX2_choicesGiving_5 (by decide) ?_
  refine ok_istore dX2_choicesGiving_6 (st_8_5 rfl) (Nat.le_of_ble_eq_true rfl) ?_
  refine ok_iload_n dX2_choicesGiving_8 rfl ?_
  refine ok_bipush (v := nI 18) dX2_choicesGiving_9 (by decide) ?_
  refine okN_min dX2_choicesGiving_11 mmin_X2_56 (Nat.le_of_ble_eq_true rfl) ⟨Nat.le_of_ble_eq_true rfl, Nat.le_of_ble_eq_true rfl⟩ (Nat.le_of_ble_eq_true rfl) (by omega) (by omega) ?_
  rw [show (if 18 < n then 18 else n) = n by rw [if_neg (by omega)]]
  refine ok_istore dX2_choicesGiving_14 (st_8_6 rfl) (Nat.le_of_ble_eq_true rfl) ?_
  exact l_X2_choicesGiving hgi hH hW ea eb e8 e10 n 1 0 0 _ hn (by omega) (by omega) k
theorem l_X2_choicesBetween {ra rb sa len n : Nat} (hlen : len ≤ 18) (hn : n ≤ 18) (hH : ∀ c, H c ≤ 18) (hW : ∀ c, W c ≤ 18) (ea : hc h 6 = some (mxo nw lt)) (eb : hc h 7 = some (aI 361 choF)) (e8 : hc h 8 = some (aI 20 H)) (e10 : hc h 10 = some (aI 20 W)) (er : hc h ra = some (rowc rb len n)) :
    ∀ (d gi acc : Nat), gi + d = len + 1 → Q (some (.int (nI (acc + bs (fun gi => if gi = 0 ∨ 0 < W gi then cgN H W gi n 1 0 0 else 0) gi d)))) h → Ok g MX2_choicesBetween (m_J g MX2_choicesBetween Q) 34 [some (.ref 6), some (.ref ra), some (.ref sa), some (.int (nI acc)), some (.int (nI gi))] [] h 0 0 := by
  intro d
  induction d with
  | zero =>
    intro gi acc hd k
    refine ok_iload dX2_choicesBetween_34 rfl ?_
    refine ok_aload_n dX2_choicesBetween_36 rfl rfl ?_
    refine ok_get dX2_choicesBetween_37 fl_X2_49 (by assumption) (by rfl) ?_
    refine okN_icmp_gt (tgt := 84) dX2_choicesBetween_40 (by decide) (by omega) (by omega) (fun c1 => ?_) (fun c1 => ?_)
    · refine ok_iload_n dX2_choicesBetween_84 rfl ?_
      refine ok_iret dX2_choicesBetween_85 rfl rfl ⟨Nat.le_of_ble_eq_true rfl, Nat.le_of_ble_eq_true rfl⟩ ?_
      exact k
    · exact absurd c1 (by omega)
  | succ d ih =>
    intro gi acc hd k
    have h2 := hW gi
    have k' : Q (some (.int (nI (acc + ((if gi = 0 ∨ 0 < W gi then cgN H W gi n 1 0 0 else 0) + bs (fun gi => if gi = 0 ∨ 0 < W gi then cgN H W gi n 1 0 0 else 0) (gi + 1) d))))) h := k
    rw [← Nat.add_assoc] at k'
    have nxt := ih (gi + 1) _ (by omega) k'
    have add : (gi = 0 ∨ 0 < W gi) → Ok g MX2_choicesBetween (m_J g MX2_choicesBetween Q) 65 [some (.ref 6), some (.ref ra), some (.ref sa), some (.int (nI acc)), some (.int (nI gi))] [] h 0 0 := by
      intro hy
      rw [if_pos hy] at nxt
      refine ok_iload_n dX2_choicesBetween_65 rfl ?_
      refine ok_aload_n dX2_choicesBetween_66 rfl rfl ?_
      refine ok_iload dX2_choicesBetween_67 rfl ?_
      refine ok_aload_n dX2_choicesBetween_69 rfl rfl ?_
      refine ok_get dX2_choicesBetween_70 fl_X2_41 (by assumption) (by rfl) ?_
      refine call_X2_choicesGiving dX2_choicesBetween_73 lk_X2_52 ⟨Nat.le_of_ble_eq_true rfl, Nat.le_of_ble_eq_true rfl, Nat.le_of_ble_eq_true rfl⟩ (by assumption) (Nat.le_of_ble_eq_true rfl) ?_
      refine c_X2_choicesGiving (by omega) hn hH hW ea eb e8 e10 ?_
      dsimp only [m_push]
      first | refine okN_iadd dX2_choicesBetween_76 ?_ | refine ok_iadd dX2_choicesBetween_76 ?_
      refine ok_istore_n dX2_choicesBetween_77 (st_5_3 rfl) (Nat.le_of_ble_eq_true rfl) ?_
      refine okN_inc dX2_choicesBetween_78 rfl (st_5_4 rfl) (Nat.le_of_ble_eq_true rfl) ?_
      refine ok_goto (tgt := 34) dX2_choicesBetween_81 (by decide) ?_
      exact nxt
    refine ok_iload dX2_choicesBetween_34 rfl ?_
    refine ok_aload_n dX2_choicesBetween_36 rfl rfl ?_
    refine ok_get dX2_choicesBetween_37 fl_X2_49 (by assumption) (by rfl) ?_
    refine okN_icmp_gt (tgt := 84) dX2_choicesBetween_40 (by decide) (by omega) (by omega) (fun c1 => ?_) (fun c1 => ?_)
    · exact absurd c1 (by omega)
    · refine ok_iload dX2_choicesBetween_43 rfl ?_
      refine ok_bipush (v := nI 19) dX2_choicesBetween_45 (by decide) ?_
      refine okN_icmp_ge (tgt := 84) dX2_choicesBetween_47 (by decide) (by omega) (by omega) (fun c2 => ?_) (fun c2 => ?_)
      · exact absurd c2 (by omega)
      · refine ok_iload dX2_choicesBetween_50 rfl ?_
        refine okN_if_eq (tgt := 65) dX2_choicesBetween_52 (by decide) (by omega) (fun c3 => ?_) (fun c3 => ?_)
        · exact add (Or.inl c3)
        · refine ok_aload_n dX2_choicesBetween_55 rfl rfl ?_
          refine ok_get dX2_choicesBetween_56 fl_X2_21 (by assumption) (by rfl) ?_
          refine ok_iload dX2_choicesBetween_59 rfl ?_
          first | refine okN_iald dX2_choicesBetween_61 (by assumption) (by omega) (by decide) ?_ | refine okF_iald dX2_choicesBetween_61 (by assumption) (by omega) (by omega) ?_ | refine okN_kald dX2_choicesBetween_61 (by assumption) (by omega) (by decide) ?_
          refine okN_if_le (tgt := 78) dX2_choicesBetween_62 (by decide) (by omega) (fun c4 => ?_) (fun c4 => ?_)
          · rw [if_neg (by omega)] at nxt
            refine okN_inc dX2_choicesBetween_78 rfl (st_5_4 rfl) (Nat.le_of_ble_eq_true rfl) ?_
            refine ok_goto (tgt := 34) dX2_choicesBetween_81 (by decide) ?_
            exact nxt
          · exact add (Or.inr c4)
theorem c_X2_choicesBetween {ra rb sa sb : Nat} {l m : List Nat} (ol : okl l) (om : okl m) (ea : hc h 6 = some (mxo nw lt)) (eb : hc h 7 = some (aI 361 choF)) (c8 : cI h 8 20) (c10 : cI h 10 20) (r1 : Rw h ra rb l) (r2 : Rw h sa sb m) (d1 : ra ≠ 8 ∧ ra ≠ 10 ∧ rb ≠ 8 ∧ rb ≠ 10) (d2 : sa ≠ 8 ∧ sa ≠ 10 ∧ sb ≠ 8 ∧ sb ≠ 10) (k : ∀ h', hx [8, 10] h h' → cI h' 8 20 → cI h' 10 20 → Q (some (.int (nI (if l.sum = m.sum then WT l (nb m) else 0)))) h') : Ok g MX2_choicesBetween (m_J g MX2_choicesBetween Q) 0 [some (.ref 6), some (.ref ra), some (.ref sa), none, none] [] h 0 0 := by
  obtain ⟨F8, e8⟩ := id c8
  obtain ⟨F10, e10⟩ := id c10
  have er1 := r1.1
  have er2 := r2.1
  have s1 := ol.2.2
  have s2 := om.2.2
  refine ok_aload_n dX2_choicesBetween_0 rfl rfl ?_
  refine ok_get dX2_choicesBetween_1 fl_X2_41 (by assumption) (by rfl) ?_
  refine ok_aload_n dX2_choicesBetween_4 rfl rfl ?_
  refine ok_get dX2_choicesBetween_5 fl_X2_41 (by assumption) (by rfl) ?_
  refine okN_icmp_eq (tgt := 13) dX2_choicesBetween_8 (by decide) (by omega) (by omega) (fun c1 => ?_) (fun c1 => ?_)
  · rw [if_pos c1, ← cb_WT ol om c1] at k
    refine ok_aload_n dX2_choicesBetween_13 rfl rfl ?_
    refine ok_aload_n dX2_choicesBetween_14 rfl rfl ?_
    refine ok_get dX2_choicesBetween_15 fl_X2_15 (by assumption) (by rfl) ?_
    refine call_X3_tallyInto dX2_choicesBetween_18 lk_X2_45 ⟨Nat.le_of_ble_eq_true rfl, Nat.le_of_ble_eq_true rfl, Nat.le_of_ble_eq_true rfl⟩ (by assumption) (Nat.le_of_ble_eq_true rfl) ?_
    refine c_X3_tallyInto r1 (Ne.symm d1.1) (Ne.symm d1.2.2.1) ol e8 (fun h1 x1 e81 => ?_)
    have ea1 := x1.at (by decide) ea
    have eb1 := x1.at (by decide) eb
    have e101 := x1.at (by decide) e10
    have r11 := r1.at x1 (by simp [d1.1]) (by simp [d1.2.2.1])
    have r21 := r2.at x1 (by simp [d2.1]) (by simp [d2.2.2.1])
    have er21 := r21.1
    refine ok_aload_n dX2_choicesBetween_21 rfl rfl ?_
    refine ok_aload_n dX2_choicesBetween_22 rfl rfl ?_
    refine ok_get dX2_choicesBetween_23 fl_X2_21 (by assumption) (by rfl) ?_
    refine call_X3_tallyInto dX2_choicesBetween_26 lk_X2_45 ⟨Nat.le_of_ble_eq_true rfl, Nat.le_of_ble_eq_true rfl, Nat.le_of_ble_eq_true rfl⟩ (by assumption) (Nat.le_of_ble_eq_true rfl) ?_
    refine c_X3_tallyInto r21 (Ne.symm d2.2.1) (Ne.symm d2.2.2.2) om e101 (fun h2 x2 e102 => ?_)
    have ea2 := x2.at (by decide) ea1
    have eb2 := x2.at (by decide) eb1
    have e82 := x2.at (by decide) e81
    have r12 := r11.at x2 (by simp [d1.2.1]) (by simp [d1.2.2.2])
    refine ok_iconst (v := nI 0) dX2_choicesBetween_29 (by decide) ?_
    refine ok_istore_n dX2_choicesBetween_30 (st_5_3 rfl) (Nat.le_of_ble_eq_true rfl) ?_
    refine ok_iconst (v := nI 0) dX2_choicesBetween_31 (by decide) ?_
    refine ok_istore dX2_choicesBetween_32 (st_5_4 rfl) (Nat.le_of_ble_eq_true rfl) ?_
    refine l_X2_choicesBetween ol.len s1 (tly_le ol) (tly_le om) ea2 eb2 e82 e102 r12.1 (l.length + 1) 0 0 (by omega) ?_
    rw [Nat.zero_add]
    exact k h2 (x1.tr x2 (by simp) (by simp)) ⟨_, e82⟩ ⟨_, e102⟩
  · rw [if_neg c1] at k
    refine ok_iconst (v := nI 0) dX2_choicesBetween_11 (by decide) ?_
    refine ok_iret dX2_choicesBetween_12 rfl rfl ⟨Nat.le_of_ble_eq_true rfl, Nat.le_of_ble_eq_true rfl⟩ ?_
    exact k h hx.rf c8 c10
theorem l_X2_nextGift (hH : ∀ c, H c ≤ 18) (k0 : ∀ h' v, hx [9] h h' → hc h' 9 = some (aI 20 v) → True → Q none h' → Q none h') :
    ∀ (f c : Nat) (v : Nat → Nat) (h1 : mH), c + f = 19 → 1 ≤ c → (∀ d, v d ≤ 18) → hx [9] h h1 → hc h1 6 = some (mxo nw lt) → hc h1 8 = some (aI 20 H) → hc h1 9 = some (aI 20 v) → (∀ h', hx [9] h h' → hc h' 9 = some (aI 20 (ngD (asc H f c) v)) → Q none h') → Ok g MX2_nextGift (m_J g MX2_nextGift Q) 2 [some (.ref 6), some (.int (nI c))] [] h1 0 0 := by
  intro f
  induction f with
  | zero =>
    intro c v h1 hc1 h1c hv x1 ea e8 e9 k
    refine ok_iload_n dX2_nextGift_2 rfl ?_
    refine ok_bipush (v := nI 19) dX2_nextGift_3 (by decide) ?_
    refine okN_icmp_ge (tgt := 47) dX2_nextGift_5 (by decide) (by omega) (by omega) (fun c1 => ?_) (fun c1 => ?_)
    · refine ok_vret dX2_nextGift_47 rfl ⟨Nat.le_of_ble_eq_true rfl, Nat.le_of_ble_eq_true rfl⟩ ?_
      exact k h1 x1 e9
    · exact absurd c1 (by omega)
  | succ f ih =>
    intro c v h1 hc1 h1c hv x1 ea e8 e9 k
    have b1 := hH c
    have b2 := hv c
    have k' : ∀ h', hx [9] h h' → hc h' 9 = some (aI 20 (if v c < H c then up v c (v c + 1) else ngD (asc H f (c + 1)) (up v c 0))) → Q none h' := k
    refine ok_iload_n dX2_nextGift_2 rfl ?_
    refine ok_bipush (v := nI 19) dX2_nextGift_3 (by decide) ?_
    refine okN_icmp_ge (tgt := 47) dX2_nextGift_5 (by decide) (by omega) (by omega) (fun c1 => ?_) (fun c1 => ?_)
    · exact absurd c1 (by omega)
    · refine ok_aload_n dX2_nextGift_8 rfl rfl ?_
      refine ok_get dX2_nextGift_9 fl_X2_18 (by assumption) (by rfl) ?_
      refine ok_iload_n dX2_nextGift_12 rfl ?_
      first | refine okN_iald dX2_nextGift_13 (by assumption) (by omega) (by decide) ?_ | refine okF_iald dX2_nextGift_13 (by assumption) (by omega) (by omega) ?_ | refine okN_kald dX2_nextGift_13 (by assumption) (by omega) (by decide) ?_
      refine ok_aload_n dX2_nextGift_14 rfl rfl ?_
      refine ok_get dX2_nextGift_15 fl_X2_15 (by assumption) (by rfl) ?_
      refine ok_iload_n dX2_nextGift_18 rfl ?_
      first | refine okN_iald dX2_nextGift_19 (by assumption) (by omega) (by decide) ?_ | refine okF_iald dX2_nextGift_19 (by assumption) (by omega) (by omega) ?_ | refine okN_kald dX2_nextGift_19 (by assumption) (by omega) (by decide) ?_
      refine okN_icmp_ge (tgt := 34) dX2_nextGift_20 (by decide) (by omega) (by omega) (fun c2 => ?_) (fun c2 => ?_)
      · rw [if_neg (by omega)] at k'
        refine ok_aload_n dX2_nextGift_34 rfl rfl ?_
        refine ok_get dX2_nextGift_35 fl_X2_18 (by assumption) (by rfl) ?_
        refine ok_iload_n dX2_nextGift_38 rfl ?_
        refine ok_iconst (v := nI 0) dX2_nextGift_39 (by decide) ?_
        first | refine okN_iast dX2_nextGift_40 (by assumption) (by omega) (by decide) (fun h2 hx2 he2 => ?_) | refine okC_iast dX2_nextGift_40 (by assumption) (by omega) (by omega) (by omega) (fun h2 hx2 he2 => ?_) | refine okF_iast dX2_nextGift_40 (by assumption) (by omega) (by omega) (fun h2 hx2 he2 => ?_) | refine okN_kast dX2_nextGift_40 (by assumption) (by omega) (by decide) (fun h2 hx2 he2 => ?_)
        refine okN_inc dX2_nextGift_41 rfl (st_2_1 rfl) (Nat.le_of_ble_eq_true rfl) ?_
        refine ok_goto (tgt := 2) dX2_nextGift_44 (by decide) ?_
        refine ih (c + 1) (up v c 0) h2 (by omega) (by omega) (fun d => ?_) (x1.tr' hx2) (hx2.at (by decide) ea) (hx2.at (by decide) e8) he2 k'
        by_cases z : d = c
        · rw [z, up_eq]; exact Nat.zero_le _
        · rw [up_ne z]; exact hv d
      · rw [if_pos c2] at k'
        refine ok_aload_n dX2_nextGift_23 rfl rfl ?_
        refine ok_get dX2_nextGift_24 fl_X2_18 (by assumption) (by rfl) ?_
        refine ok_iload_n dX2_nextGift_27 rfl ?_
        refine ok_dup2 dX2_nextGift_28 rfl rfl ?_
        first | refine okN_iald dX2_nextGift_29 (by assumption) (by omega) (by decide) ?_ | refine okF_iald dX2_nextGift_29 (by assumption) (by omega) (by omega) ?_ | refine okN_kald dX2_nextGift_29 (by assumption) (by omega) (by decide) ?_
        refine ok_iconst (v := nI 1) dX2_nextGift_30 (by decide) ?_
        first | refine okN_iadd dX2_nextGift_31 ?_ | refine ok_iadd dX2_nextGift_31 ?_
        first | refine okN_iast dX2_nextGift_32 (by assumption) (by omega) (by decide) (fun h2 hx2 he2 => ?_) | refine okC_iast dX2_nextGift_32 (by assumption) (by omega) (by omega) (by omega) (fun h2 hx2 he2 => ?_) | refine okF_iast dX2_nextGift_32 (by assumption) (by omega) (by omega) (fun h2 hx2 he2 => ?_) | refine okN_kast dX2_nextGift_32 (by assumption) (by omega) (by decide) (fun h2 hx2 he2 => ?_)
        refine ok_vret dX2_nextGift_33 rfl ⟨Nat.le_of_ble_eq_true rfl, Nat.le_of_ble_eq_true rfl⟩ ?_
        exact k' h2 (x1.tr' hx2) he2
theorem c_X2_nextGift {v : Nat → Nat} (hH : ∀ c, H c ≤ 18) (hv : ∀ d, v d ≤ 18) (ea : hc h 6 = some (mxo nw lt)) (e8 : hc h 8 = some (aI 20 H)) (e9 : hc h 9 = some (aI 20 v)) (k : ∀ h', hx [9] h h' → hc h' 9 = some (aI 20 (ngD (asc H 18 1) v)) → Q none h') : Ok g MX2_nextGift (m_J g MX2_nextGift Q) 0 [some (.ref 6), none] [] h 0 0 := by
  refine ok_iconst (v := nI 1) dX2_nextGift_0 (by decide) ?_
  refine ok_istore_n dX2_nextGift_1 (st_2_1 rfl) (Nat.le_of_ble_eq_true rfl) ?_
  exact l_X2_nextGift hH (fun _ _ _ _ _ q => q) 18 1 v h (by omega) (by omega) hv hx.rf ea e8 e9 k
theorem l_X2_landI {n G c hp0 : Nat} {w acc : Int64} {l : List Nat} (hl : okl l) (hc1 : 1 ≤ c) (hs : l.sum + hp0 * c ≤ 18)
    (k : ∀ h' z, hx [13, 14] h h' → hc h' 6 = some (mxo nw lt) → Rw h' 13 14 (rpN c l hp0) → Ok g MX2_land (m_J g MX2_land Q) 114 [some (.ref 6), some (.ref 4), some (.int (nI n)), some (.long w), none, some (.long acc), none, some (.int (nI G)), some (.int (nI c)), some (.int (nI hp0)), z] [] h' 0 0) :
    ∀ (d i : Nat) (h1 : mH), i + d = hp0 → hx [13, 14] h h1 → hc h1 6 = some (mxo nw lt) → Rw h1 13 14 (rpN c l i) → Ok g MX2_land (m_J g MX2_land Q) 92 [some (.ref 6), some (.ref 4), some (.int (nI n)), some (.long w), none, some (.long acc), none, some (.int (nI G)), some (.int (nI c)), some (.int (nI hp0)), some (.int (nI i))] [] h1 0 0 := by
  have mle : ∀ i, i ≤ hp0 → i * c ≤ hp0 * c := fun i hi => Nat.mul_le_mul_right c hi
  have hb := Nat.le_mul_of_pos_right hp0 (show 0 < c by omega)
  intro d
  induction d with
  | zero =>
    intro i h1 hi x1 ea r
    have ei : i = hp0 := by omega
    subst ei
    refine ok_iload dX2_land_92 rfl ?_
    refine ok_iload dX2_land_94 rfl ?_
    refine okN_icmp_ge (tgt := 114) dX2_land_96 (by decide) (by omega) (by omega) (fun c1 => ?_) (fun c1 => ?_)
    · exact k h1 _ x1 ea r
    · exact absurd c1 (by omega)
  | succ d ih =>
    intro i h1 hi x1 ea r
    have er := r.1
    have m1 := mle (i + 1) (by omega)
    rw [Nat.add_mul, Nat.one_mul] at m1
    have m2 := rp_sum c l i
    refine ok_iload dX2_land_92 rfl ?_
    refine ok_iload dX2_land_94 rfl ?_
    refine okN_icmp_ge (tgt := 114) dX2_land_96 (by decide) (by omega) (by omega) (fun c1 => ?_) (fun c1 => ?_)
    · exact absurd c1 (by omega)
    · refine ok_aload_n dX2_land_99 rfl rfl ?_
      refine ok_get dX2_land_100 fl_X2_31 (by assumption) (by rfl) ?_
      refine ok_iload dX2_land_103 rfl ?_
      refine call_X3_put dX2_land_105 lk_X2_105 ⟨Nat.le_of_ble_eq_true rfl, Nat.le_of_ble_eq_true rfl, Nat.le_of_ble_eq_true rfl⟩ (by assumption) (Nat.le_of_ble_eq_true rfl) ?_
      refine c_X3_put r (by decide) (rp_ok hl hc1 i (by omega)) hc1 (by omega) (fun h2 x2 r2 => ?_)
      refine okN_inc dX2_land_108 rfl (st_11_10 rfl) (Nat.le_of_ble_eq_true rfl) ?_
      refine ok_goto (tgt := 92) dX2_land_111 (by decide) ?_
      exact ih (i + 1) h2 (by omega) (x1.tr' x2) (x2.at (by decide) ea) r2
theorem l_X2_land {n : Nat} {w : Int64} {v : Nat → Nat} (hv : ∀ c, v c ≤ H c) (hH : ∀ c, H c ≤ 18) (eb : hc h 7 = some (aI 361 choF)) (e8 : hc h 8 = some (aI 20 H)) (e9 : hc h 9 = some (aI 20 v)) :
    ∀ (c G : Nat) (l : List Nat) (acc : Int64) (h1 : mH) (z9 z10 : Option Value), c ≤ 18 → okl l → l.sum + G + c * v (c + 1) + wsum H c ≤ 18 → m_c2 z9 = false → hx [13, 14] h h1 → hc h1 6 = some (mxo nw lt) → Rw h1 13 14 l →
    (∀ h' z9' z10', hx [13, 14] h h' → hc h' 6 = some (mxo nw lt) → Rw h' 13 14 (ldL H v c l) → Ok g MX2_land (m_J g MX2_land Q) 120 [some (.ref 6), some (.ref 4), some (.int (nI n)), some (.long w), none, some (.long (acc * lN (pcN H v c))), none, some (.int (nI (G + gvN v c))), some (.int (nI 0)), z9', z10'] [] h' 0 0) →
    Ok g MX2_land (m_J g MX2_land Q) 21 [some (.ref 6), some (.ref 4), some (.int (nI n)), some (.long w), none, some (.long acc), none, some (.int (nI G)), some (.int (nI c)), z9, z10] [] h1 0 0 := by
  intro c
  induction c with
  | zero =>
    intro G l acc h1 z9 z10 hc hl hs hz x1 ea r k
    have p0 : acc * lN (pcN H v 0) = acc := by
      show acc * lN 1 = acc
      rw [show lN 1 = 1 from rfl, Int64.mul_one]
    rw [p0] at k
    refine ok_iload dX2_land_21 rfl ?_
    refine okN_if_le (tgt := 120) dX2_land_23 (by decide) (by omega) (fun c1 => ?_) (fun c1 => ?_)
    · exact k h1 _ _ x1 ea r
    · exact absurd c1 (by omega)
  | succ c ih =>
    intro G l acc h1 z9 z10 hc hl hs hz x1 ea r k
    have eb1 := x1.at (by decide) eb
    have e81 := x1.at (by decide) e8
    have e91 := x1.at (by decide) e9
    have a1 := ar_1 c (H (c + 1)) (v (c + 1)) (v (c + 2)) (hv _)
    have er1 : rc H v (c + 1) = H (c + 1) - v (c + 1) + v (c + 2) := rfl
    have w1 : wsum H (c + 1) = wsum H c + (c + 1) * H (c + 1) := rfl
    have g1 : gvN v (c + 1) = gvN v c + v (c + 1) := rfl
    have b1 := hv (c + 1)
    have b2 := hH (c + 1)
    rw [← er1] at a1
    rw [w1, show c + 1 + 1 = c + 2 from rfl] at hs
    have cb : cho (H (c + 1)) (v (c + 1)) < 2 ^ 31 := by
      have := cho_le (H (c + 1)) (by omega) (v (c + 1)) (by omega)
      have : 2 ^ H (c + 1) ≤ 2 ^ 18 := Nat.pow_le_pow_right (by decide) b2
      omega
    have pe : acc * lN (pcN H v (c + 1)) = acc * lN (cho (H (c + 1)) (v (c + 1))) * lN (pcN H v c) := by
      show acc * lN (cho (H (c + 1)) (v (c + 1)) * pcN H v c) = _
      rw [← lN_mul, Int64.mul_assoc]
    rw [pe, g1, show G + (gvN v c + v (c + 1)) = G + v (c + 1) + gvN v c by omega] at k
    refine ok_iload dX2_land_21 rfl ?_
    refine okN_if_le (tgt := 120) dX2_land_23 (by decide) (by omega) (fun c1 => ?_) (fun c1 => ?_)
    · exact absurd c1 (by omega)
    · refine ok_lload dX2_land_26 rfl ?_
      refine ok_aload_n dX2_land_28 rfl rfl ?_
      refine ok_aload_n dX2_land_29 rfl rfl ?_
      refine ok_get dX2_land_30 fl_X2_15 (by assumption) (by rfl) ?_
      refine ok_iload dX2_land_33 rfl ?_
      first | refine okN_iald dX2_land_35 (by assumption) (by omega) (by decide) ?_ | refine okF_iald dX2_land_35 (by assumption) (by omega) (by omega) ?_ | refine okN_kald dX2_land_35 (by assumption) (by omega) (by decide) ?_
      refine ok_aload_n dX2_land_36 rfl rfl ?_
      refine ok_get dX2_land_37 fl_X2_18 (by assumption) (by rfl) ?_
      refine ok_iload dX2_land_40 rfl ?_
      first | refine okN_iald dX2_land_42 (by assumption) (by omega) (by decide) ?_ | refine okF_iald dX2_land_42 (by assumption) (by omega) (by omega) ?_ | refine okN_kald dX2_land_42 (by assumption) (by omega) (by decide) ?_
      refine call_X2_chosenAt dX2_land_43 lk_X2_61 ⟨Nat.le_of_ble_eq_true rfl, Nat.le_of_ble_eq_true rfl, Nat.le_of_ble_eq_true rfl⟩ (by assumption) (Nat.le_of_ble_eq_true rfl) ?_
      refine c_X2_chosenAt ea eb1 (by omega) (by omega) ?_
      dsimp only [m_push]
      refine ok_i2l dX2_land_46 ?_
      rw [nI_l cb]
      refine ok_lmul dX2_land_47 ?_
      refine ok_lstore dX2_land_48 (st2_11_5 rfl) (Nat.le_of_ble_eq_true rfl) ?_
      refine ok_iload dX2_land_50 rfl ?_
      refine ok_aload_n dX2_land_52 rfl rfl ?_
      refine ok_get dX2_land_53 fl_X2_18 (by assumption) (by rfl) ?_
      refine ok_iload dX2_land_56 rfl ?_
      first | refine okN_iald dX2_land_58 (by assumption) (by omega) (by decide) ?_ | refine okF_iald dX2_land_58 (by assumption) (by omega) (by omega) ?_ | refine okN_kald dX2_land_58 (by assumption) (by omega) (by decide) ?_
      first | refine okN_iadd dX2_land_59 ?_ | refine ok_iadd dX2_land_59 ?_
      refine ok_istore dX2_land_60 (st_11_7 rfl) (Nat.le_of_ble_eq_true rfl) ?_
      refine ok_aload_n dX2_land_62 rfl rfl ?_
      refine ok_get dX2_land_63 fl_X2_15 (by assumption) (by rfl) ?_
      refine ok_iload dX2_land_66 rfl ?_
      first | refine okN_iald dX2_land_68 (by assumption) (by omega) (by decide) ?_ | refine okF_iald dX2_land_68 (by assumption) (by omega) (by omega) ?_ | refine okN_kald dX2_land_68 (by assumption) (by omega) (by decide) ?_
      refine ok_aload_n dX2_land_69 rfl rfl ?_
      refine ok_get dX2_land_70 fl_X2_18 (by assumption) (by rfl) ?_
      refine ok_iload dX2_land_73 rfl ?_
      first | refine okN_iald dX2_land_75 (by assumption) (by omega) (by decide) ?_ | refine okF_iald dX2_land_75 (by assumption) (by omega) (by omega) ?_ | refine okN_kald dX2_land_75 (by assumption) (by omega) (by decide) ?_
      first | refine okN_isub dX2_land_76 (by omega) ?_ | refine ok_isub dX2_land_76 ?_
      refine ok_aload_n dX2_land_77 rfl rfl ?_
      refine ok_get dX2_land_78 fl_X2_18 (by assumption) (by rfl) ?_
      refine ok_iload dX2_land_81 rfl ?_
      refine ok_iconst (v := nI 1) dX2_land_83 (by decide) ?_
      first | refine okN_iadd dX2_land_84 ?_ | refine ok_iadd dX2_land_84 ?_
      first | refine okN_iald dX2_land_85 (by assumption) (by omega) (by decide) ?_ | refine okF_iald dX2_land_85 (by assumption) (by omega) (by omega) ?_ | refine okN_kald dX2_land_85 (by assumption) (by omega) (by decide) ?_
      first | refine okN_iadd dX2_land_86 ?_ | refine ok_iadd dX2_land_86 ?_
      rw [show c + 1 + 1 = c + 2 from rfl, ← er1]
      refine ok_istore dX2_land_87 (st_11_9 rfl) (Nat.le_of_ble_eq_true rfl) ?_
      refine ok_iconst (v := nI 0) dX2_land_89 (by decide) ?_
      refine ok_istore dX2_land_90 (st_11_10 rfl) (Nat.le_of_ble_eq_true rfl) ?_
      refine l_X2_landI (h := h1) hl (by omega) (by omega) (fun h2 z x2 ea2 r2 => ?_) (rc H v (c + 1)) 0 h1 (by omega) hx.rf ea r
      refine okN_dec dX2_land_114 rfl (by omega) (st_11_8 rfl) (Nat.le_of_ble_eq_true rfl) ?_
      refine ok_goto (tgt := 21) dX2_land_117 (by decide) ?_
      have s1 := rp_sum (c + 1) l (rc H v (c + 1))
      exact ih (G + v (c + 1)) (rpN (c + 1) l (rc H v (c + 1))) _ h2 _ _ (by omega) (rp_ok hl (by omega) _ (by omega)) (by omega) rfl (x1.tr' x2) ea2 r2 k
theorem c_X2_land {n : Nat} {w : Int64} {v : Nat → Nat} {T : Nat → Int64} (hn : n ≤ 18) (hlt : lt = 15 ∨ lt = 16) (hv : ∀ c, v c ≤ H c) (hv2 : v (n + 1) = 0) (hH : ∀ c, H c ≤ 18) (hw : wsum H n = n) (ls : Ls h 4 5) (ea : hc h 6 = some (mxo nw lt)) (eb : hc h 7 = some (aI 361 choF)) (e8 : hc h 8 = some (aI 20 H)) (e9 : hc h 9 = some (aI 20 v)) (sp : Sp h 13 14) (et : hc h lt = some (aJ 385 T))
    (k : ∀ h', hx [13, 14, lt] h h' → Sp h' 13 14 → hc h' lt = some (aJ 385 (up T (nb (res H v n)) (T (nb (res H v n)) + w * lN (pcN H v n)))) → Q none h') :
    Ok g MX2_land (m_J g MX2_land Q) 0 [some (.ref 6), some (.ref 4), some (.int (nI n)), some (.long w), none, none, none, none, none, none, none] [] h 0 0 := by
  obtain ⟨l0, ol0, rr0⟩ := sp
  have er0 := rr0.1
  obtain ⟨q1, q2⟩ := res_ok hv hv2 (by omega)
  rw [hw] at q2
  have q3 := nb_lt q1
  rw [q2] at q3
  have cl := cap_lt (n := n) (m := n) (by omega) (by omega)
  have e00 : ([] : List Nat).sum = 0 := rfl
  obtain ⟨i1, i2⟩ := ld_inv hv n [] 0 okl_nil (by rw [hv2, Nat.mul_zero]; omega)
  rw [hv2, Nat.mul_zero] at i2
  refine ok_aload_n dX2_land_0 rfl rfl ?_
  refine ok_get dX2_land_1 fl_X2_31 (by assumption) (by rfl) ?_
  refine call_X3_clear dX2_land_4 lk_X2_102 ⟨Nat.le_of_ble_eq_true rfl, Nat.le_of_ble_eq_true rfl, Nat.le_of_ble_eq_true rfl⟩ (by assumption) (Nat.le_of_ble_eq_true rfl) ?_
  refine c_X3_clear er0 (fun h1 x1 e1 => ?_)
  obtain ⟨F14, e14, -⟩ := rr0.2
  have e141 := x1.at (by decide) e14
  refine ok_lload_n dX2_land_7 rfl ?_
  refine ok_lstore dX2_land_8 (st2_11_5 rfl) (Nat.le_of_ble_eq_true rfl) ?_
  refine ok_iconst (v := nI 0) dX2_land_10 (by decide) ?_
  refine ok_istore dX2_land_11 (st_11_7 rfl) (Nat.le_of_ble_eq_true rfl) ?_
  refine ok_iload_n dX2_land_13 rfl ?_
  refine ok_bipush (v := nI 18) dX2_land_14 (by decide) ?_
  refine okN_min dX2_land_16 mmin_X2_56 (Nat.le_of_ble_eq_true rfl) ⟨Nat.le_of_ble_eq_true rfl, Nat.le_of_ble_eq_true rfl⟩ (Nat.le_of_ble_eq_true rfl) (by omega) (by omega) ?_
  rw [show (if 18 < n then 18 else n) = n by rw [if_neg (by omega)]]
  refine ok_istore dX2_land_19 (st_11_8 rfl) (Nat.le_of_ble_eq_true rfl) ?_
  have x1' : hx [13, 14] h h1 := x1.mono (by simp)
  refine l_X2_land (h := h1) (v := v) hv hH (x1.at (by decide) eb) (x1.at (by decide) e8) (x1.at (by decide) e9) n 0 [] w h1 _ _ hn okl_nil (by rw [hv2, Nat.mul_zero]; omega) rfl hx.rf (x1.at (by decide) ea) ⟨e1, F14, e141, fun i hi => by simp at hi⟩ (fun h2 z9 z10 x2 ea2 r2 => ?_)
  have er2 := r2.1
  have x02 : hx [13, 14] h h2 := x1'.tr' x2
  have ls2 := ls.at x02 (by decide) (by decide)
  have et2 := x02.at (by simp <;> omega) et
  rw [Nat.zero_add]
  refine ok_aload_n dX2_land_120 rfl rfl ?_
  refine ok_get dX2_land_121 fl_X2_31 (by assumption) (by rfl) ?_
  refine ok_iload dX2_land_124 rfl ?_
  refine call_X3_put dX2_land_126 lk_X2_105 ⟨Nat.le_of_ble_eq_true rfl, Nat.le_of_ble_eq_true rfl, Nat.le_of_ble_eq_true rfl⟩ (by assumption) (Nat.le_of_ble_eq_true rfl) ?_
  refine c_X3_putZ r2 (by decide) i1 (by omega) (fun h3 x3 r3 => ?_)
  have r3' : Rw h3 13 14 (res H v n) := r3
  have er3 := r3'.1
  have ea3 := x3.at (by decide) ea2
  have ls3 := ls2.at x3 (by decide) (by decide)
  have els3 := ls3.1
  have et3 := x3.at (by simp <;> omega) et2
  refine ok_aload_n dX2_land_129 rfl rfl ?_
  refine ok_aload_n dX2_land_130 rfl rfl ?_
  refine ok_get dX2_land_131 fl_X2_31 (by assumption) (by rfl) ?_
  refine call_X1_numberOf dX2_land_134 lk_X2_74 ⟨Nat.le_of_ble_eq_true rfl, Nat.le_of_ble_eq_true rfl, Nat.le_of_ble_eq_true rfl⟩ (by assumption) (Nat.le_of_ble_eq_true rfl) ?_
  refine c_X1_numberOf ls3 r3' q1 ?_
  refine ok_istore dX2_land_137 (st_11_8 rfl) (Nat.le_of_ble_eq_true rfl) ?_
  refine ok_iload dX2_land_139 rfl ?_
  refine okN_if_lt (tgt := 164) dX2_land_141 (by decide) (by omega) ?_
  refine ok_iload dX2_land_144 rfl ?_
  refine ok_sipush (v := nI 385) dX2_land_146 (by decide) ?_
  refine okN_icmp_ge (tgt := 164) dX2_land_149 (by decide) (by omega) (by omega) (fun c2 => ?_) (fun c2 => ?_)
  · exact absurd c2 (by omega)
  · refine ok_aload_n dX2_land_152 rfl rfl ?_
    refine ok_get dX2_land_153 fl_X2_38 (by assumption) (by rfl) ?_
    refine ok_iload dX2_land_156 rfl ?_
    refine ok_dup2 dX2_land_158 rfl rfl ?_
    refine okN_lald dX2_land_159 (by assumption) (by omega) (by decide) ?_
    refine ok_lload dX2_land_160 rfl ?_
    refine ok_ladd dX2_land_162 ?_
    refine okN_last dX2_land_163 (by assumption) (by omega) (by decide) (fun h4 hx4 he4 => ?_)
    refine ok_vret dX2_land_164 rfl ⟨Nat.le_of_ble_eq_true rfl, Nat.le_of_ble_eq_true rfl⟩ ?_
    refine k h4 ((x02.tr x3 (C := [13, 14, lt]) (by simp) (by simp)).tr hx4 (by simp) (by simp)) ⟨_, q1, r3'.at hx4 (by simp <;> omega) (by simp <;> omega)⟩ he4
end MIXC
