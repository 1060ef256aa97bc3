/-! ===== turn, steps, count, digest, copy ===== -/
theorem ppN_full {l : List Nat} (h : okl l) : ppN l 0 [] l.length = l := by
  rw [ppN_nil l h l.length (Nat.le_refl _)]
  simp
theorem thN_le (S : ST) : ∀ p, thN S p ≤ p
  | 0 => Nat.le_refl _
  | p + 1 => by
    have := thN_le S p
    unfold thN
    split <;> omega
/-- the spare rows changed -/
theorem IX.setSp {h h' : mH} {S : ST} (I : IX h S) (x : hx [18, 19] h h') (s1 : Sp h' 18 19) : IX h' S := by
  obtain ⟨e0, hr, i1, i2, i3, i4, i5, i6, i7, i7', i8⟩ := I
  have w := x.w
  exact ⟨w.at (by decide) e0, hr, i1.w w (by decide), i2.w w (by decide), i3.w w (by decide), i4.w w (by decide) (by decide), i5.w w (fun q l1 l2 => by simp <;> omega), i6.w w (by decide) (by decide), s1, i7'.w w (by decide) (by decide), i8.w w (fun q l1 l2 => by simp <;> omega)⟩
section PUB4
variable {g : mG} {h : mH} {Q : Option Value → mH → Prop} {S : ST}
theorem l_X4_turn {j : Nat} {p : Int32} {l : List Nat} (hj : j < 12) (hl : okl l) {fi : Nat} {wk : Int64} {ru : Nat}
    (k : ∀ h', hx [18, 19] h h' → hc h' 0 = some (gho ru fi wk) → Rw h' (22 + 2 * j) (23 + 2 * j) l → Rw h' 18 19 (trn l) → Ok g MX4_turn (m_J g MX4_turn Q) 61 [some (.ref 0), some (.int p), some (.ref (22 + 2 * j)), some (.int (nI (l.getD 0 0 + 1)))] [] h' 0 0) :
    ∀ (d c : Nat) (h1 : mH), c + d = l.getD 0 0 → hx [18, 19] h h1 → hc h1 0 = some (gho ru fi wk) → Rw h1 (22 + 2 * j) (23 + 2 * j) l → Rw h1 18 19 (trnN l c) →
    Ok g MX4_turn (m_J g MX4_turn Q) 34 [some (.ref 0), some (.int p), some (.ref (22 + 2 * j)), some (.int (nI (c + 1)))] [] h1 0 0 := by
  obtain ⟨t1, t2, t3⟩ := trn_ok hl
  have g0 := gd_sum l 0
  have hsum := hl.2.2
  have hlen := hl.len
  have head : ∀ (h1 : mH) (c : Nat), Rw h1 (22 + 2 * j) (23 + 2 * j) l → Ok g MX4_turn (m_J g MX4_turn Q) 40 [some (.ref 0), some (.int p), some (.ref (22 + 2 * j)), some (.int (nI (c + 1)))] [.int (nI (l.getD 0 0)), .int (nI (c + 1))] h1 0 0 → Ok g MX4_turn (m_J g MX4_turn Q) 34 [some (.ref 0), some (.int p), some (.ref (22 + 2 * j)), some (.int (nI (c + 1)))] [] h1 0 0 := by
    intro h1 c rr kk
    have er := rr.1
    refine ok_iload_n dX4_turn_34 rfl ?_
    refine ok_aload_n dX4_turn_35 rfl rfl ?_
    refine ok_iconst (v := nI 0) dX4_turn_36 (by decide) ?_
    refine call_X3_heapAt dX4_turn_37 lk_X4_80 ⟨Nat.le_of_ble_eq_true rfl, Nat.le_of_ble_eq_true rfl, Nat.le_of_ble_eq_true rfl⟩ (by assumption) (Nat.le_of_ble_eq_true rfl) ?_
    by_cases c0 : 0 < l.length
    · exact c_X3_heapN rr hl c0 kk
    · obtain ⟨er', F, eF, hF⟩ := rr
      refine c_X3_heapAt er' eF (by omega) (fun x y1 y2 y3 => absurd y2 (by omega)) (fun _ => ?_)
      have e00 : l = [] := List.eq_nil_of_length_eq_zero (by omega)
      rw [e00] at kk
      exact kk
  intro d
  induction d with
  | zero =>
    intro c h1 hc x1 e0 rr rs
    refine head h1 c rr ?_
    have ec : c = l.getD 0 0 := by omega
    refine okN_icmp_gt (tgt := 61) dX4_turn_40 (by decide) (by omega) (by omega) (fun c1 => ?_) (fun c1 => ?_)
    · rw [ec] at rs ⊢
      exact k h1 x1 e0 rr rs
    · exact absurd c1 (by omega)
  | succ d ih =>
    intro c h1 hc x1 e0 rr rs
    refine head h1 c rr ?_
    have er := rr.1
    have es := rs.1
    have o1 := t1 c (by omega)
    have o2 := t1 (c + 1) (by omega)
    have m1 : 1 ≤ hfr (c + 1) l := o2.2.1 _ (ins_self _ _)
    have m2 : hfr (c + 1) l + (trnN l c).sum ≤ 18 := by
      have := o2.2.2
      unfold trnN at this
      rw [ins_sum] at this
      exact this
    refine okN_icmp_gt (tgt := 61) dX4_turn_40 (by decide) (by omega) (by omega) (fun c1 => ?_) (fun c1 => ?_)
    · exact absurd c1 (by omega)
    · refine ok_aload_n dX4_turn_43 rfl rfl ?_
      refine ok_get dX4_turn_44 fl_X4_44 (by assumption) (by rfl) ?_
      refine ok_aload_n dX4_turn_47 rfl rfl ?_
      refine ok_iload_n dX4_turn_48 rfl ?_
      refine call_X3_heapsFrom dX4_turn_49 lk_X4_122 ⟨Nat.le_of_ble_eq_true rfl, Nat.le_of_ble_eq_true rfl, Nat.le_of_ble_eq_true rfl⟩ (by assumption) (Nat.le_of_ble_eq_true rfl) ?_
      refine c_X3_heapsFrom rr hl (by omega) ?_
      dsimp only [m_push]
      refine call_X3_put dX4_turn_52 lk_X4_69 ⟨Nat.le_of_ble_eq_true rfl, Nat.le_of_ble_eq_true rfl, Nat.le_of_ble_eq_true rfl⟩ (by assumption) (Nat.le_of_ble_eq_true rfl) ?_
      refine c_X3_put rs (by decide) o1 m1 m2 (fun h2 x2 r2 => ?_)
      refine okN_inc dX4_turn_55 rfl (st_4_3 rfl) (Nat.le_of_ble_eq_true rfl) ?_
      refine ok_goto (tgt := 34) dX4_turn_58 (by decide) ?_
      exact ih (c + 1) h2 (by omega) (x1.tr' x2) (x2.at (by decide) e0) (rr.at x2 (by simp <;> omega) (by simp <;> omega)) r2
theorem p_X4_turn {p : Int32} (I : IX h S) (k : ∀ h', fX h h' → IX h' (sp_turn S p).2 → Q (some (.int (sp_turn S p).1)) h') : Ok g MX4_turn (m_J g MX4_turn Q) 0 [some (.ref 0), some (.int p), none, none] [] h 0 0 := by
  have e0 := I.1
  unfold sp_turn ofp at k
  refine ok_iload_n dX4_turn_0 rfl ?_
  refine call_X4_isPlace dX4_turn_1 lk_X4_51 ⟨Nat.le_of_ble_eq_true rfl, Nat.le_of_ble_eq_true rfl, Nat.le_of_ble_eq_true rfl⟩ (Nat.le_of_ble_eq_true rfl) ?_
  refine c_X4_isPlace (fun j q1 q2 q3 => ?_) (fun q => ?_)
  · rw [q1] at k
    dsimp only at k
    refine okN_if_ne (tgt := 9) dX4_turn_4 (by decide) (by omega) (fun c1 => ?_) (fun c1 => ?_)
    · refine ok_aload_n dX4_turn_9 rfl rfl ?_
      refine ok_iload_n dX4_turn_10 rfl ?_
      refine call_X4_rowAt dX4_turn_11 lk_X4_58 ⟨Nat.le_of_ble_eq_true rfl, Nat.le_of_ble_eq_true rfl, Nat.le_of_ble_eq_true rfl⟩ (by assumption) (Nat.le_of_ble_eq_true rfl) ?_
      refine c_X4_rowAt I (fun j' w1 w2 w3 => ?_) (fun w => ?_)
      · have ej : j' = j := by rw [q1] at w1; exact (Option.some.inj w1).symm
        subst ej
        rw [if_pos w3] at k
        obtain ⟨ol, rr⟩ := I.2.2.2.2.2.2.2.2.2.2.row q2 w3
        obtain ⟨ls, os, ⟨es, Fs, eFs, hFs⟩⟩ := I.2.2.2.2.2.2.2.2.1
        have er := rr.1
        obtain ⟨t1, t2, t3⟩ := trn_ok ol
        have ot : okl (trn (S.2.1 j')) := t1 _ (Nat.le_refl _)
        have hsum := ol.2.2
        have tlen := ot.len
        refine ok_astore_n dX4_turn_14 (st_4_2 rfl) (Nat.le_of_ble_eq_true rfl) rfl ?_
        refine ok_aload_n dX4_turn_15 rfl rfl ?_
        refine ok_ifnonnull (tgt := 25) dX4_turn_16 (by decide) rfl (fun c2 => ?_) (fun c2 => ?_)
        · refine ok_aload_n dX4_turn_25 rfl rfl ?_
          refine ok_get dX4_turn_26 fl_X4_44 (by assumption) (by rfl) ?_
          refine call_X3_clear dX4_turn_29 lk_X4_55 ⟨Nat.le_of_ble_eq_true rfl, Nat.le_of_ble_eq_true rfl, Nat.le_of_ble_eq_true rfl⟩ (by assumption) (Nat.le_of_ble_eq_true rfl) ?_
          refine c_X3_clear es (fun h1 x1 es1 => ?_)
          refine ok_iconst (v := nI 1) dX4_turn_32 (by decide) ?_
          refine ok_istore_n dX4_turn_33 (st_4_3 rfl) (Nat.le_of_ble_eq_true rfl) ?_
          refine l_X4_turn (h := h) (l := S.2.1 j') q2 ol (fun h2 x2 e02 rr2 rs2 => ?_) _ 0 h1 (Nat.zero_add _) (x1.mono (by simp)) (x1.at (by decide) e0) (rr.at x1 (by simp <;> omega) (by simp <;> omega)) ⟨es1, Fs, x1.at (by decide) eFs, fun i hi => by simp [trnN] at hi⟩
          obtain ⟨er2, F2, eF2, hF2⟩ := rr2
          refine ok_aload_n dX4_turn_61 rfl rfl ?_
          refine call_X3_clear dX4_turn_62 lk_X4_55 ⟨Nat.le_of_ble_eq_true rfl, Nat.le_of_ble_eq_true rfl, Nat.le_of_ble_eq_true rfl⟩ (by assumption) (Nat.le_of_ble_eq_true rfl) ?_
          refine c_X3_clear er2 (fun h3 x3 er3 => ?_)
          have e03 := x3.at (by simp <;> omega) e02
          have rs3 := rs2.at x3 (by simp <;> omega) (by simp <;> omega)
          have es3 := rs3.1
          have rr3 : Rw h3 (22 + 2 * j') (23 + 2 * j') [] := ⟨er3, F2, x3.at (by simp <;> omega) eF2, fun i hi => by simp at hi⟩
          refine ok_aload_n dX4_turn_65 rfl rfl ?_
          refine ok_aload_n dX4_turn_66 rfl rfl ?_
          refine ok_get dX4_turn_67 fl_X4_44 (by assumption) (by rfl) ?_
          refine ok_iconst (v := nI 0) dX4_turn_70 (by decide) ?_
          refine ok_aload_n dX4_turn_71 rfl rfl ?_
          refine ok_get dX4_turn_72 fl_X4_44 (by assumption) (by rfl) ?_
          refine ok_get dX4_turn_75 fl_X4_73 (by assumption) (by rfl) ?_
          refine call_X3_putPart dX4_turn_78 lk_X4_86 ⟨Nat.le_of_ble_eq_true rfl, Nat.le_of_ble_eq_true rfl, Nat.le_of_ble_eq_true rfl⟩ (by assumption) (Nat.le_of_ble_eq_true rfl) ?_
          refine c_X3_putPart rr3 rs3 (by omega) (by omega) (by omega) (by omega) (by omega) ot (by omega) (fun i hi => ?_) (fun h4 x4 r4 => ?_)
          · refine (ppN_inv ot okl_nil 0 i (by omega) ?_).1
            have := tsum_le (trn (S.2.1 j')) (0 + i)
            have := ot.2.2
            rw [List.sum_nil]
            omega
          · rw [ppN_full ot] at r4
            have er4 := r4.1
            refine ok_aload_n dX4_turn_81 rfl rfl ?_
            refine ok_get dX4_turn_82 fl_X4_73 (by assumption) (by rfl) ?_
            refine ok_iret dX4_turn_85 rfl rfl ⟨Nat.le_of_ble_eq_true rfl, Nat.le_of_ble_eq_true rfl⟩ ?_
            have xs : hx [18, 19, 22 + 2 * j', 23 + 2 * j'] h h4 := (x2.tr x3 (C := [18, 19, 22 + 2 * j', 23 + 2 * j']) (by simp) (by simp)).tr x4 (by simp) (by simp)
            have I2' : IX h2 S := I.setSp x2 ⟨_, ot, rs2⟩
            exact k h4 (xs.w.f (by simp <;> omega)) (I2'.setP q2 w3 (x3.tr x4 (by simp) (by simp)) ot r4)
        · cases c2
      · rw [if_neg (by rw [w j q1]; decide)] at k
        refine ok_astore_n dX4_turn_14 (st_4_2 rfl) (Nat.le_of_ble_eq_true rfl) rfl ?_
        refine ok_aload_n dX4_turn_15 rfl rfl ?_
        refine ok_ifnonnull (tgt := 25) dX4_turn_16 (by decide) rfl (fun c2 => ?_) (fun c2 => ?_)
        · exact absurd rfl c2
        · refine ok_aload_n dX4_turn_19 rfl rfl ?_
          refine ok_iconst (v := nI 1) dX4_turn_20 (by decide) ?_
          refine call_X4_found dX4_turn_21 lk_X4_62 ⟨Nat.le_of_ble_eq_true rfl, Nat.le_of_ble_eq_true rfl, Nat.le_of_ble_eq_true rfl⟩ (by assumption) (Nat.le_of_ble_eq_true rfl) ?_
          refine c_X4_found I (by decide) (fun h' x' I' => ?_)
          refine ok_iret dX4_turn_24 rfl rfl ⟨Nat.le_of_ble_eq_true rfl, Nat.le_of_ble_eq_true rfl⟩ ?_
          exact k h' (x'.w.f (by decide)) I'
    · exact absurd c1 (by decide)
  · rw [q] at k
    refine okN_if_ne (tgt := 9) dX4_turn_4 (by decide) (by omega) (fun c1 => ?_) (fun c1 => ?_)
    · exact absurd c1 (by decide)
    · refine ok_iconst (v := -1) dX4_turn_7 (by decide) ?_
      refine ok_iret dX4_turn_8 rfl rfl ⟨Nat.le_of_ble_eq_true rfl, Nat.le_of_ble_eq_true rfl⟩ ?_
      exact k h fX.rf I
theorem l_X4_rowsThere (I : IX h S) (k : Q (some (.int (nI (thN S 12)))) h) : ∀ (d p : Nat), p + d = 12 → Ok g MX4_rowsThere (m_J g MX4_rowsThere Q) 4 [some (.ref 0), some (.int (nI (thN S p))), some (.int (nI p))] [] h 0 0 := by
  obtain ⟨e0, -, -, ⟨F2, e2, f2⟩, -⟩ := I
  intro d
  induction d with
  | zero =>
    intro p hp
    have ep : p = 12 := by omega
    subst ep
    refine ok_iload_n dX4_rowsThere_4 rfl ?_
    refine ok_bipush (v := nI 12) dX4_rowsThere_5 (by decide) ?_
    refine okN_icmp_ge (tgt := 33) dX4_rowsThere_7 (by decide) (by omega) (by omega) (fun c1 => ?_) (fun c1 => ?_)
    · refine ok_iload_n dX4_rowsThere_33 rfl ?_
      refine ok_iret dX4_rowsThere_34 rfl rfl ⟨Nat.le_of_ble_eq_true rfl, Nat.le_of_ble_eq_true rfl⟩ ?_
      exact k
    · exact absurd c1 (by omega)
  | succ d ih =>
    intro p hp
    have nx1 := ih (p + 1) (by omega)
    unfold thN at nx1
    refine ok_iload_n dX4_rowsThere_4 rfl ?_
    refine ok_bipush (v := nI 12) dX4_rowsThere_5 (by decide) ?_
    refine okN_icmp_ge (tgt := 33) dX4_rowsThere_7 (by decide) (by omega) (by omega) (fun c1 => ?_) (fun c1 => ?_)
    · exact absurd c1 (by omega)
    · refine ok_iload_n dX4_rowsThere_10 rfl ?_
      refine ok_aload_n dX4_rowsThere_11 rfl rfl ?_
      refine ok_get dX4_rowsThere_12 fl_X4_15 (by assumption) (by rfl) ?_
      refine ok_iload_n dX4_rowsThere_15 rfl ?_
      refine okN_zald dX4_rowsThere_16 (by assumption) (by omega) (by decide) ?_
      rw [f2 p c1]
      cases ht : S.1 p with
      | true =>
        rw [if_pos ht] at nx1
        rw [if_pos rfl]
        refine okN_if_eq (tgt := 24) dX4_rowsThere_17 (by decide) (by omega) (fun c2 => ?_) (fun c2 => ?_)
        · exact absurd c2 (by decide)
        · refine ok_iconst (v := nI 1) dX4_rowsThere_20 (by decide) ?_
          refine ok_goto (tgt := 25) dX4_rowsThere_21 (by decide) ?_
          first | refine okN_iadd dX4_rowsThere_25 ?_ | refine ok_iadd dX4_rowsThere_25 ?_
          refine ok_istore_n dX4_rowsThere_26 (st_3_1 rfl) (Nat.le_of_ble_eq_true rfl) ?_
          refine okN_inc dX4_rowsThere_27 rfl (st_3_2 rfl) (Nat.le_of_ble_eq_true rfl) ?_
          refine ok_goto (tgt := 4) dX4_rowsThere_30 (by decide) ?_
          exact nx1
      | false =>
        rw [if_neg (by rw [ht]; decide)] at nx1
        rw [if_neg (by decide)]
        refine okN_if_eq (tgt := 24) dX4_rowsThere_17 (by decide) (by omega) (fun c2 => ?_) (fun c2 => ?_)
        · refine ok_iconst (v := nI 0) dX4_rowsThere_24 (by decide) ?_
          first | refine okN_iadd dX4_rowsThere_25 ?_ | refine ok_iadd dX4_rowsThere_25 ?_
          refine ok_istore_n dX4_rowsThere_26 (st_3_1 rfl) (Nat.le_of_ble_eq_true rfl) ?_
          refine okN_inc dX4_rowsThere_27 rfl (st_3_2 rfl) (Nat.le_of_ble_eq_true rfl) ?_
          refine ok_goto (tgt := 4) dX4_rowsThere_30 (by decide) ?_
          exact nx1
        · exact absurd c2 (by decide)
theorem l_X4_cardsInAll (I : IX h S) (k : Q (some (.int (nI (cdN S 12)))) h) : ∀ (d p : Nat), p + d = 12 → Ok g MX4_cardsInAll (m_J g MX4_cardsInAll Q) 4 [some (.ref 0), some (.int (nI (cdN S p))), some (.int (nI p))] [] h 0 0 := by
  obtain ⟨e0, -, ⟨F1, e1, f1⟩, ⟨F2, e2, f2⟩, -, -, -, -, -, -, i8⟩ := I
  intro d
  induction d with
  | zero =>
    intro p hp
    have ep : p = 12 := by omega
    subst ep
    refine ok_iload_n dX4_cardsInAll_4 rfl ?_
    refine ok_bipush (v := nI 12) dX4_cardsInAll_5 (by decide) ?_
    refine okN_icmp_ge (tgt := 41) dX4_cardsInAll_7 (by decide) (by omega) (by omega) (fun c1 => ?_) (fun c1 => ?_)
    · refine ok_iload_n dX4_cardsInAll_41 rfl ?_
      refine ok_iret dX4_cardsInAll_42 rfl rfl ⟨Nat.le_of_ble_eq_true rfl, Nat.le_of_ble_eq_true rfl⟩ ?_
      exact k
    · exact absurd c1 (by omega)
  | succ d ih =>
    intro p hp
    have nx1 := ih (p + 1) (by omega)
    unfold cdN at nx1
    refine ok_iload_n dX4_cardsInAll_4 rfl ?_
    refine ok_bipush (v := nI 12) dX4_cardsInAll_5 (by decide) ?_
    refine okN_icmp_ge (tgt := 41) dX4_cardsInAll_7 (by decide) (by omega) (by omega) (fun c1 => ?_) (fun c1 => ?_)
    · exact absurd c1 (by omega)
    · refine ok_iload_n dX4_cardsInAll_10 rfl ?_
      refine ok_aload_n dX4_cardsInAll_11 rfl rfl ?_
      refine ok_get dX4_cardsInAll_12 fl_X4_15 (by assumption) (by rfl) ?_
      refine ok_iload_n dX4_cardsInAll_15 rfl ?_
      refine okN_zald dX4_cardsInAll_16 (by assumption) (by omega) (by decide) ?_
      rw [f2 p c1]
      cases ht : S.1 p with
      | true =>
        rw [if_pos ht] at nx1
        rw [if_pos rfl]
        obtain ⟨ol, rr⟩ := i8.row c1 ht
        have er := rr.1
        refine okN_if_eq (tgt := 32) dX4_cardsInAll_17 (by decide) (by omega) (fun c2 => ?_) (fun c2 => ?_)
        · exact absurd c2 (by decide)
        · refine ok_aload_n dX4_cardsInAll_20 rfl rfl ?_
          refine ok_get dX4_cardsInAll_21 fl_X4_11 (by assumption) (by rfl) ?_
          refine ok_iload_n dX4_cardsInAll_24 rfl ?_
          first | refine okN_aald (t := 3) dX4_cardsInAll_25 rfl (by assumption) (by omega) (by decide) ?_ | refine okN_aald (t := 4) dX4_cardsInAll_25 rfl (by assumption) (by omega) (by decide) ?_
          rw [f1 p c1]
          dsimp only [m_rv]
          refine ok_get dX4_cardsInAll_26 fl_X4_90 (by assumption) (by rfl) ?_
          refine ok_goto (tgt := 33) dX4_cardsInAll_29 (by decide) ?_
          first | refine okN_iadd dX4_cardsInAll_33 ?_ | refine ok_iadd dX4_cardsInAll_33 ?_
          refine ok_istore_n dX4_cardsInAll_34 (st_3_1 rfl) (Nat.le_of_ble_eq_true rfl) ?_
          refine okN_inc dX4_cardsInAll_35 rfl (st_3_2 rfl) (Nat.le_of_ble_eq_true rfl) ?_
          refine ok_goto (tgt := 4) dX4_cardsInAll_38 (by decide) ?_
          exact nx1
      | false =>
        rw [if_neg (by rw [ht]; decide)] at nx1
        rw [if_neg (by decide)]
        refine okN_if_eq (tgt := 32) dX4_cardsInAll_17 (by decide) (by omega) (fun c2 => ?_) (fun c2 => ?_)
        · refine ok_iconst (v := nI 0) dX4_cardsInAll_32 (by decide) ?_
          first | refine okN_iadd dX4_cardsInAll_33 ?_ | refine ok_iadd dX4_cardsInAll_33 ?_
          refine ok_istore_n dX4_cardsInAll_34 (st_3_1 rfl) (Nat.le_of_ble_eq_true rfl) ?_
          refine okN_inc dX4_cardsInAll_35 rfl (st_3_2 rfl) (Nat.le_of_ble_eq_true rfl) ?_
          refine ok_goto (tgt := 4) dX4_cardsInAll_38 (by decide) ?_
          exact nx1
        · exact absurd c2 (by decide)
theorem p_X4_count {w : Int32} (I : IX h S) (k : ∀ h', fX h h' → IX h' (sp_count S w).2 → Q (some (.int (sp_count S w).1)) h') : Ok g MX4_count (m_J g MX4_count Q) 0 [some (.ref 0), some (.int w)] [] h 0 0 := by
  have e0 := I.1
  unfold sp_count at k
  refine ok_iload_n dX4_count_0 rfl ?_
  rcases pl_cases 3 w (by decide) with e | ⟨x, e, hx5, rfl⟩
  · rw [e] at k
    dsimp only at k
    refine ok_tableOut (tgt := 43) dX4_count_1 (by have := pl_not e; omega) (by decide) ?_
    refine ok_iconst (v := -1) dX4_count_43 (by decide) ?_
    refine ok_iret dX4_count_44 rfl rfl ⟨Nat.le_of_ble_eq_true rfl, Nat.le_of_ble_eq_true rfl⟩ ?_
    exact k h fX.rf I
  · rw [e] at k
    dsimp only at k
    rcases (show x = 0 ∨ x = 1 ∨ x = 2 by omega) with rfl | rfl | rfl
    · refine ok_tableIn (tgt := 28) (off := 27) dX4_count_1 (by decide) (by decide) (by decide) (by decide) ?_
      refine ok_aload_n dX4_count_28 rfl rfl ?_
      refine ok_get dX4_count_29 fl_X4_93 (by assumption) (by rfl) ?_
      refine ok_iret dX4_count_32 rfl rfl ⟨Nat.le_of_ble_eq_true rfl, Nat.le_of_ble_eq_true rfl⟩ ?_
      exact k h fX.rf I
    · refine ok_tableIn (tgt := 33) (off := 32) dX4_count_1 (by decide) (by decide) (by decide) (by decide) ?_
      refine ok_aload_n dX4_count_33 rfl rfl ?_
      refine call_X4_rowsThere dX4_count_34 lk_X4_179 ⟨Nat.le_of_ble_eq_true rfl, Nat.le_of_ble_eq_true rfl, Nat.le_of_ble_eq_true rfl⟩ (by assumption) (Nat.le_of_ble_eq_true rfl) ?_
      refine ok_iconst (v := nI 0) dX4_rowsThere_0 (by decide) ?_
      refine ok_istore_n dX4_rowsThere_1 (st_3_1 rfl) (Nat.le_of_ble_eq_true rfl) ?_
      refine ok_iconst (v := nI 0) dX4_rowsThere_2 (by decide) ?_
      refine ok_istore_n dX4_rowsThere_3 (st_3_2 rfl) (Nat.le_of_ble_eq_true rfl) ?_
      refine l_X4_rowsThere I ?_ 12 0 (by omega)
      refine ok_iret dX4_count_37 rfl rfl ⟨Nat.le_of_ble_eq_true rfl, Nat.le_of_ble_eq_true rfl⟩ ?_
      exact k h fX.rf I
    · refine ok_tableIn (tgt := 38) (off := 37) dX4_count_1 (by decide) (by decide) (by decide) (by decide) ?_
      refine ok_aload_n dX4_count_38 rfl rfl ?_
      refine call_X4_cardsInAll dX4_count_39 lk_X4_182 ⟨Nat.le_of_ble_eq_true rfl, Nat.le_of_ble_eq_true rfl, Nat.le_of_ble_eq_true rfl⟩ (by assumption) (Nat.le_of_ble_eq_true rfl) ?_
      refine ok_iconst (v := nI 0) dX4_cardsInAll_0 (by decide) ?_
      refine ok_istore_n dX4_cardsInAll_1 (st_3_1 rfl) (Nat.le_of_ble_eq_true rfl) ?_
      refine ok_iconst (v := nI 0) dX4_cardsInAll_2 (by decide) ?_
      refine ok_istore_n dX4_cardsInAll_3 (st_3_2 rfl) (Nat.le_of_ble_eq_true rfl) ?_
      refine l_X4_cardsInAll I ?_ 12 0 (by omega)
      refine ok_iret dX4_count_42 rfl rfl ⟨Nat.le_of_ble_eq_true rfl, Nat.le_of_ble_eq_true rfl⟩ ?_
      exact k h fX.rf I
theorem l_X4_digest (I : IX h S) (k : Q (some (.long (sp_digest S))) h) : ∀ (d p : Nat) (z : Option Value), p + d = 12 → Ok g MX4_digest (m_J g MX4_digest Q) 12 [some (.ref 0), some (.long (dgS S p)), none, some (.int (nI p)), z] [] h 0 0 := by
  have e0 := I.1
  intro d
  induction d with
  | zero =>
    intro p z hp
    have ep : p = 12 := by omega
    subst ep
    refine ok_iload_n dX4_digest_12 rfl ?_
    refine ok_bipush (v := nI 12) dX4_digest_13 (by decide) ?_
    refine okN_icmp_ge (tgt := 53) dX4_digest_15 (by decide) (by omega) (by omega) (fun c1 => ?_) (fun c1 => ?_)
    · refine ok_lload_n dX4_digest_53 rfl ?_
      refine ok_lret dX4_digest_54 rfl ⟨Nat.le_of_ble_eq_true rfl, Nat.le_of_ble_eq_true rfl⟩ ?_
      exact k
    · exact absurd c1 (by omega)
  | succ d ih =>
    intro p z hp
    have nx1 := fun z => ih (p + 1) z (by omega)
    unfold dgS at nx1
    refine ok_iload_n dX4_digest_12 rfl ?_
    refine ok_bipush (v := nI 12) dX4_digest_13 (by decide) ?_
    refine okN_icmp_ge (tgt := 53) dX4_digest_15 (by decide) (by omega) (by omega) (fun c1 => ?_) (fun c1 => ?_)
    · exact absurd c1 (by omega)
    · refine ok_aload_n dX4_digest_18 rfl rfl ?_
      refine ok_iload_n dX4_digest_19 rfl ?_
      refine call_X4_rowAt dX4_digest_20 lk_X4_58 ⟨Nat.le_of_ble_eq_true rfl, Nat.le_of_ble_eq_true rfl, Nat.le_of_ble_eq_true rfl⟩ (by assumption) (Nat.le_of_ble_eq_true rfl) ?_
      refine c_X4_rowAt I (fun j' w1 w2 w3 => ?_) (fun w => ?_)
      · have ej : p = j' := by rw [pl_nI (by decide) c1] at w1; exact Option.some.inj w1
        subst ej
        rw [if_pos w3] at nx1
        obtain ⟨ol, rr⟩ := I.2.2.2.2.2.2.2.2.2.2.row c1 w3
        have er := rr.1
        refine ok_astore dX4_digest_23 (st_5_4 rfl) (Nat.le_of_ble_eq_true rfl) rfl ?_
        refine ok_aload dX4_digest_25 rfl rfl ?_
        refine ok_ifnonnull (tgt := 40) dX4_digest_27 (by decide) rfl (fun c2 => ?_) (fun c2 => ?_)
        · refine ok_aload dX4_digest_40 rfl rfl ?_
          refine ok_lload_n dX4_digest_42 rfl ?_
          refine call_X3_digestOnto dX4_digest_43 lk_X4_192 ⟨Nat.le_of_ble_eq_true rfl, Nat.le_of_ble_eq_true rfl, Nat.le_of_ble_eq_true rfl⟩ (by assumption) (Nat.le_of_ble_eq_true rfl) ?_
          refine c_X3_digestOnto rr ol ?_
          refine ok_lstore_n dX4_digest_46 (st2_5_1 rfl) (Nat.le_of_ble_eq_true rfl) ?_
          refine okN_inc dX4_digest_47 rfl (st_5_3 rfl) (Nat.le_of_ble_eq_true rfl) ?_
          refine ok_goto (tgt := 12) dX4_digest_50 (by decide) ?_
          exact nx1 _
        · cases c2
      · rw [if_neg (by rw [w p (pl_nI (by decide) c1)]; decide)] at nx1
        refine ok_astore dX4_digest_23 (st_5_4 rfl) (Nat.le_of_ble_eq_true rfl) rfl ?_
        refine ok_aload dX4_digest_25 rfl rfl ?_
        refine ok_ifnonnull (tgt := 40) dX4_digest_27 (by decide) rfl (fun c2 => ?_) (fun c2 => ?_)
        · exact absurd rfl c2
        · refine ok_ldc2 dX4_digest_30 kl_X4_190 ?_
          refine ok_lload_n dX4_digest_33 rfl ?_
          refine ok_lmul dX4_digest_34 ?_
          refine ok_lconst (v := 1) dX4_digest_35 (by decide) ?_
          refine ok_lsub dX4_digest_36 ?_
          refine ok_goto (tgt := 46) dX4_digest_37 (by decide) ?_
          refine ok_lstore_n dX4_digest_46 (st2_5_1 rfl) (Nat.le_of_ble_eq_true rfl) ?_
          refine okN_inc dX4_digest_47 rfl (st_5_3 rfl) (Nat.le_of_ble_eq_true rfl) ?_
          refine ok_goto (tgt := 12) dX4_digest_50 (by decide) ?_
          exact nx1 _
theorem p_X4_digest (I : IX h S) (k : Q (some (.long (sp_digest S))) h) : Ok g MX4_digest (m_J g MX4_digest Q) 0 [some (.ref 0), none, none, none, none] [] h 0 0 := by
  have e0 := I.1
  have hr := I.2.1
  refine ok_ldc2 dX4_digest_0 kl_X4_188 ?_
  refine ok_aload_n dX4_digest_3 rfl rfl ?_
  refine ok_get dX4_digest_4 fl_X4_93 (by assumption) (by rfl) ?_
  refine ok_i2l dX4_digest_7 ?_
  rw [nI_l (by omega)]
  refine ok_ladd dX4_digest_8 ?_
  refine ok_lstore_n dX4_digest_9 (st2_5_1 rfl) (Nat.le_of_ble_eq_true rfl) ?_
  refine ok_iconst (v := nI 0) dX4_digest_10 (by decide) ?_
  refine ok_istore_n dX4_digest_11 (st_5_3 rfl) (Nat.le_of_ble_eq_true rfl) ?_
  exact l_X4_digest I k 12 0 _ (by omega)
end PUB4
