/-! ===== the second program's calls, more ===== -/
theorem up_up {α : Type} {F : Nat → α} {k : Nat} {x y : α} : up (up F k x) k y = up F k y := by
  funext j
  by_cases c : j = k
  · rw [c, up_eq, up_eq]
  · rw [up_ne c, up_ne c, up_ne c]
theorem up_id {α : Type} (F : Nat → α) (k : Nat) : up F k (F k) = F := by
  funext j
  by_cases c : j = k
  · rw [c, up_eq]
  · rw [up_ne c]
theorem s_P_P (S : ST) (b : Nat) (l l' : List Nat) : s_P (s_P S b l) b l' = s_P S b l' := by
  unfold s_P
  dsimp only
  rw [up_up]
theorem s_P_id (S : ST) (b : Nat) : s_P S b (S.2.1 b) = S := by
  unfold s_P
  rw [up_id]
def cnM (S : ST) (w : Int32) : Nat → Nat
  | 0 => 0
  | p + 1 => cnM S w p + (if S.1 p = true then (if w = nI 1 then 1 else (S.2.1 p).sum) else 0)
theorem cnM_1 (S : ST) : ∀ p, cnM S (nI 1) p = thN S p
  | 0 => rfl
  | p + 1 => by unfold cnM thN; rw [cnM_1 S p, if_pos rfl]
theorem cnM_2 (S : ST) {w : Int32} (hw : ¬ w = nI 1) : ∀ p, cnM S w p = cdN S p
  | 0 => rfl
  | p + 1 => by unfold cnM cdN; rw [cnM_2 S hw p, if_neg hw]
theorem MI.set50 {h h' : mH} {S : ST} {sz lz : Nat} {li kd : Int32} (I : MI h S sz li lz kd) (x : hx [50] h h') (c : cI h' 50 18) : MI h' S sz li lz kd := by
  obtain ⟨e0, k1, k2, k3, k4, ⟨r1, r2, r3, r4, r5, r6⟩, k6, k7⟩ := I
  exact ⟨x.at (by decide) e0, k1.at x (by decide), k2.at x (by decide), k3.at x (by decide), k4.at x (by decide) (by decide), ⟨c, r2.at x (by decide), fun a l1 l2 => (r3 a l1 l2).at x (by simp <;> omega), r4.at x (by decide), fun a l1 l2 => (r5 a l1 l2).at x (by simp <;> omega), r6.at x (by decide)⟩, k6, k7⟩
section MSIMPLE
variable {g : mG} {h : mH} {Q : Option Value → mH → Prop} {S : ST} {sz lz : Nat} {li kd : Int32}
theorem c_X5_inQ {v : Int32} {n : Nat} (hn2 : n < 2 ^ 31) (k1 : ∀ j, pl n v = some j → j < n → v = nI j → Q (some (.int (nI 1))) h) (k0 : pl n v = none → Q (some (.int (nI 0))) h) : Ok g MX5_in (m_J g MX5_in Q) 0 [some (.int v), some (.int (nI 0)), some (.int (nI n - nI 1))] [] h 0 0 := by
  by_cases c : n = 0
  · subst c
    have kz : pl 0 v = none := by
      unfold pl
      rw [if_neg (by omega)]
    refine ok_iload_n dX5_in_0 rfl ?_
    refine ok_iload_n dX5_in_1 rfl ?_
    refine ok_icmp_lt (tgt := 14) dX5_in_2 (by decide) (fun c1 => ?_) (fun c1 => ?_)
    · refine ok_iconst (v := nI 0) dX5_in_14 (by decide) ?_
      refine ok_iret dX5_in_15 rfl rfl ⟨Nat.le_of_ble_eq_true rfl, Nat.le_of_ble_eq_true rfl⟩ ?_
      exact k0 kz
    · refine ok_iload_n dX5_in_5 rfl ?_
      refine ok_iload_n dX5_in_6 rfl ?_
      refine ok_icmp_gt (tgt := 14) dX5_in_7 (by decide) (fun c2 => ?_) (fun c2 => ?_)
      · refine ok_iconst (v := nI 0) dX5_in_14 (by decide) ?_
        refine ok_iret dX5_in_15 rfl rfl ⟨Nat.le_of_ble_eq_true rfl, Nat.le_of_ble_eq_true rfl⟩ ?_
        exact k0 kz
      · refine ok_iconst (v := nI 1) dX5_in_10 (by decide) ?_
        refine ok_goto (tgt := 15) dX5_in_11 (by decide) ?_
        refine ok_iret dX5_in_15 rfl rfl ⟨Nat.le_of_ble_eq_true rfl, Nat.le_of_ble_eq_true rfl⟩ ?_
        rw [show nI 0 - nI 1 = (-1 : Int32) by decide, Int32.lt_iff_toInt_lt] at c2
        rw [tI_lt (by decide)] at c1
        have : (-1 : Int32).toInt = -1 := by decide
        omega
  · rw [pk_sub (show 1 ≤ n by omega)]
    exact c_X5_inP (by omega) hn2 k1 k0
theorem p_X5_at {p i : Int32} (I : IM h S) (k : ∀ h', fM h h' → IM h' (sp_at S p i).2 → Q (some (.int (sp_at S p i).1)) h') : Ok g MX5_at (m_J g MX5_at Q) 0 [some (.ref 46), some (.int p), some (.int i), none] [] h 0 0 := by
  obtain ⟨sz, li, lz, kd, I⟩ := I
  have e0 := I.1
  unfold sp_at ofp at k
  refine ok_aload_n dX5_at_0 rfl rfl ?_
  refine ok_iload_n dX5_at_1 rfl ?_
  refine call_X5_looked dX5_at_2 lk_X5_81 ⟨Nat.le_of_ble_eq_true rfl, Nat.le_of_ble_eq_true rfl, Nat.le_of_ble_eq_true rfl⟩ (by assumption) (Nat.le_of_ble_eq_true rfl) ?_
  refine c_X5_looked I (fun q => ?_) (fun j h' q1 q2 x' I' => ?_) (fun j q1 q2 q3 q4 => ?_)
  · rw [q] at k
    refine ok_istore_n dX5_at_5 (st_4_3 rfl) (Nat.le_of_ble_eq_true rfl) ?_
    refine ok_iload_n dX5_at_6 rfl ?_
    refine ok_if_ge (tgt := 14) dX5_at_7 (by decide) (fun c2 => ?_) (fun c2 => ?_)
    · exact absurd c2 (by decide)
    · refine ok_iload_n dX5_at_10 rfl ?_
      refine ok_goto (tgt := 63) dX5_at_11 (by decide) ?_
      refine ok_iret dX5_at_63 rfl rfl ⟨Nat.le_of_ble_eq_true rfl, Nat.le_of_ble_eq_true rfl⟩ ?_
      exact k h fM.rf ⟨_, _, _, _, I⟩
  · rw [q1] at k
    dsimp only at k
    rw [if_neg (by rw [q2]; decide)] at k
    refine ok_istore_n dX5_at_5 (st_4_3 rfl) (Nat.le_of_ble_eq_true rfl) ?_
    refine ok_iload_n dX5_at_6 rfl ?_
    refine ok_if_ge (tgt := 14) dX5_at_7 (by decide) (fun c2 => ?_) (fun c2 => ?_)
    · exact absurd c2 (by decide)
    · refine ok_iload_n dX5_at_10 rfl ?_
      refine ok_goto (tgt := 63) dX5_at_11 (by decide) ?_
      refine ok_iret dX5_at_63 rfl rfl ⟨Nat.le_of_ble_eq_true rfl, Nat.le_of_ble_eq_true rfl⟩ ?_
      exact k h' (x'.m (by decide)) ⟨_, _, _, _, I'⟩
  · rw [q1] at k
    dsimp only at k
    rw [if_pos q4] at k
    subst q3
    refine ok_istore_n dX5_at_5 (st_4_3 rfl) (Nat.le_of_ble_eq_true rfl) ?_
    refine ok_iload_n dX5_at_6 rfl ?_
    refine okN_if_ge (tgt := 14) dX5_at_7 (by decide) (by omega) ?_
    obtain ⟨-, -, ⟨F, e1, f1⟩, ⟨G, e2, g2⟩, -, -, k6, -⟩ := id I
    have ol := k6 j q2 q4
    have hlen := ol.len
    refine ok_iload_n dX5_at_14 rfl ?_
    refine ok_iconst (v := -1) dX5_at_15 (by decide) ?_
    refine ok_icmp_ne (tgt := 28) dX5_at_16 (by decide) (fun c3 => ?_) (fun c3 => ?_)
    · rw [if_neg c3] at k
      refine ok_iload_n dX5_at_28 rfl ?_
      refine ok_iconst (v := nI 0) dX5_at_29 (by decide) ?_
      refine ok_aload_n dX5_at_30 rfl rfl ?_
      refine ok_get dX5_at_31 fl_X5_13 (by assumption) (by rfl) ?_
      refine ok_iload_n dX5_at_34 rfl ?_
      first | refine okN_iald dX5_at_35 (by assumption) (by omega) (by decide) ?_ | refine okF_iald dX5_at_35 (by assumption) (by omega) (by omega) ?_ | refine okN_kald dX5_at_35 (by assumption) (by omega) (by decide) ?_
      rw [f1 j q2, if_pos q4]
      refine ok_iconst (v := nI 1) dX5_at_36 (by decide) ?_
      refine ok_isub dX5_at_37 ?_
      refine call_X5_in dX5_at_38 lk_X5_69 ⟨Nat.le_of_ble_eq_true rfl, Nat.le_of_ble_eq_true rfl, Nat.le_of_ble_eq_true rfl⟩ (Nat.le_of_ble_eq_true rfl) ?_
      refine c_X5_inQ (n := (S.2.1 j).length) (by omega) (fun x z1 z2 z3 => ?_) (fun z => ?_)
      · rw [z1] at k
        dsimp only at k
        subst z3
        refine okN_if_eq (tgt := 58) dX5_at_41 (by decide) (by omega) (fun c4 => ?_) (fun c4 => ?_)
        · exact absurd c4 (by decide)
        · refine ok_aload_n dX5_at_44 rfl rfl ?_
          refine ok_get dX5_at_45 fl_X5_16 (by assumption) (by rfl) ?_
          refine ok_bipush (v := nI 18) dX5_at_48 (by decide) ?_
          refine ok_iload_n dX5_at_50 rfl ?_
          first | refine okN_imul dX5_at_51 ?_ | refine ok_imul dX5_at_51 ?_
          refine ok_iload_n dX5_at_52 rfl ?_
          first | refine okN_iadd dX5_at_53 ?_ | refine ok_iadd dX5_at_53 ?_
          first | refine okN_iald dX5_at_54 (by assumption) (by omega) (by decide) ?_ | refine okF_iald dX5_at_54 (by assumption) (by omega) (by omega) ?_ | refine okN_kald dX5_at_54 (by assumption) (by omega) (by decide) ?_
          rw [g2 j q2 q4 x z2]
          refine ok_goto (tgt := 63) dX5_at_55 (by decide) ?_
          refine ok_iret dX5_at_63 rfl rfl ⟨Nat.le_of_ble_eq_true rfl, Nat.le_of_ble_eq_true rfl⟩ ?_
          exact k h fM.rf ⟨_, _, _, _, I⟩
      · rw [z] at k
        dsimp only at k
        refine okN_if_eq (tgt := 58) dX5_at_41 (by decide) (by omega) (fun c4 => ?_) (fun c4 => ?_)
        · refine ok_aload_n dX5_at_58 rfl rfl ?_
          refine ok_iconst (v := nI 2) dX5_at_59 (by decide) ?_
          refine call_X5_meets dX5_at_60 lk_X5_77 ⟨Nat.le_of_ble_eq_true rfl, Nat.le_of_ble_eq_true rfl, Nat.le_of_ble_eq_true rfl⟩ (by assumption) (Nat.le_of_ble_eq_true rfl) ?_
          refine c_X5_meets I (by decide) (fun h' x' I' => ?_)
          refine ok_iret dX5_at_63 rfl rfl ⟨Nat.le_of_ble_eq_true rfl, Nat.le_of_ble_eq_true rfl⟩ ?_
          exact k h' (x'.m (by decide)) ⟨_, _, _, _, I'⟩
        · exact absurd c4 (by decide)
    · rw [if_pos c3] at k
      refine ok_aload_n dX5_at_19 rfl rfl ?_
      refine ok_get dX5_at_20 fl_X5_13 (by assumption) (by rfl) ?_
      refine ok_iload_n dX5_at_23 rfl ?_
      first | refine okN_iald dX5_at_24 (by assumption) (by omega) (by decide) ?_ | refine okF_iald dX5_at_24 (by assumption) (by omega) (by omega) ?_ | refine okN_kald dX5_at_24 (by assumption) (by omega) (by decide) ?_
      rw [f1 j q2, if_pos q4]
      refine ok_goto (tgt := 63) dX5_at_25 (by decide) ?_
      refine ok_iret dX5_at_63 rfl rfl ⟨Nat.le_of_ble_eq_true rfl, Nat.le_of_ble_eq_true rfl⟩ ?_
      exact k h fM.rf ⟨_, _, _, _, I⟩
theorem p_X5_mean {p : Int32} (I : IM h S) (k : ∀ h', fM h h' → IM h' (sp_mean S p).2 → Q (some (.int (sp_mean S p).1)) h') : Ok g MX5_mean (m_J g MX5_mean Q) 0 [some (.ref 46), some (.int p), none] [] h 0 0 := by
  obtain ⟨sz, li, lz, kd, I⟩ := I
  have e0 := I.1
  unfold sp_mean ofp at k
  refine ok_aload_n dX5_mean_0 rfl rfl ?_
  refine ok_iload_n dX5_mean_1 rfl ?_
  refine call_X5_looked dX5_mean_2 lk_X5_81 ⟨Nat.le_of_ble_eq_true rfl, Nat.le_of_ble_eq_true rfl, Nat.le_of_ble_eq_true rfl⟩ (by assumption) (Nat.le_of_ble_eq_true rfl) ?_
  refine c_X5_looked I (fun q => ?_) (fun j h' q1 q2 x' I' => ?_) (fun j q1 q2 q3 q4 => ?_)
  · rw [q] at k
    refine ok_istore_n dX5_mean_5 (st_3_2 rfl) (Nat.le_of_ble_eq_true rfl) ?_
    refine ok_iload_n dX5_mean_6 rfl ?_
    refine ok_if_ge (tgt := 14) dX5_mean_7 (by decide) (fun c2 => ?_) (fun c2 => ?_)
    · exact absurd c2 (by decide)
    · refine ok_iload_n dX5_mean_10 rfl ?_
      refine ok_goto (tgt := 43) dX5_mean_11 (by decide) ?_
      refine ok_iret dX5_mean_43 rfl rfl ⟨Nat.le_of_ble_eq_true rfl, Nat.le_of_ble_eq_true rfl⟩ ?_
      exact k h fM.rf ⟨_, _, _, _, I⟩
  · rw [q1] at k
    dsimp only at k
    rw [if_neg (by rw [q2]; decide)] at k
    refine ok_istore_n dX5_mean_5 (st_3_2 rfl) (Nat.le_of_ble_eq_true rfl) ?_
    refine ok_iload_n dX5_mean_6 rfl ?_
    refine ok_if_ge (tgt := 14) dX5_mean_7 (by decide) (fun c2 => ?_) (fun c2 => ?_)
    · exact absurd c2 (by decide)
    · refine ok_iload_n dX5_mean_10 rfl ?_
      refine ok_goto (tgt := 43) dX5_mean_11 (by decide) ?_
      refine ok_iret dX5_mean_43 rfl rfl ⟨Nat.le_of_ble_eq_true rfl, Nat.le_of_ble_eq_true rfl⟩ ?_
      exact k h' (x'.m (by decide)) ⟨_, _, _, _, I'⟩
  · rw [q1] at k
    dsimp only at k
    rw [if_pos q4] at k
    subst q3
    refine ok_istore_n dX5_mean_5 (st_3_2 rfl) (Nat.le_of_ble_eq_true rfl) ?_
    refine ok_iload_n dX5_mean_6 rfl ?_
    refine okN_if_ge (tgt := 14) dX5_mean_7 (by decide) (by omega) ?_
    obtain ⟨-, -, ⟨F, e1, f1⟩, ⟨G, e2, g2⟩, -, -, k6, -⟩ := id I
    have ol := k6 j q2 q4
    have hlen := ol.len
    have hsum := ol.2.2
    refine ok_aload_n dX5_mean_14 rfl rfl ?_
    refine ok_get dX5_mean_15 fl_X5_13 (by assumption) (by rfl) ?_
    refine ok_iload_n dX5_mean_18 rfl ?_
    first | refine okN_iald dX5_mean_19 (by assumption) (by omega) (by decide) ?_ | refine okF_iald dX5_mean_19 (by assumption) (by omega) (by omega) ?_ | refine okN_kald dX5_mean_19 (by assumption) (by omega) (by decide) ?_
    rw [f1 j q2, if_pos q4]
    refine okN_if_ne (tgt := 31) dX5_mean_20 (by decide) (by omega) (fun c3 => ?_) (fun c3 => ?_)
    · rw [if_neg (by omega)] at k
      refine ok_aload_n dX5_mean_31 rfl rfl ?_
      refine ok_iload_n dX5_mean_32 rfl ?_
      refine call_X5_cards dX5_mean_33 lk_X5_84 ⟨Nat.le_of_ble_eq_true rfl, Nat.le_of_ble_eq_true rfl, Nat.le_of_ble_eq_true rfl⟩ (by assumption) (Nat.le_of_ble_eq_true rfl) ?_
      refine c_X5_cards I q2 q4 ?_
      dsimp only [m_push]
      refine ok_aload_n dX5_mean_36 rfl rfl ?_
      refine ok_get dX5_mean_37 fl_X5_13 (by assumption) (by rfl) ?_
      refine ok_iload_n dX5_mean_40 rfl ?_
      first | refine okN_iald dX5_mean_41 (by assumption) (by omega) (by decide) ?_ | refine okF_iald dX5_mean_41 (by assumption) (by omega) (by omega) ?_ | refine okN_kald dX5_mean_41 (by assumption) (by omega) (by decide) ?_
      rw [f1 j q2, if_pos q4]
      refine okN_idiv dX5_mean_42 (by omega) (by omega) (by omega) ?_
      refine ok_iret dX5_mean_43 rfl rfl ⟨Nat.le_of_ble_eq_true rfl, Nat.le_of_ble_eq_true rfl⟩ ?_
      exact k h fM.rf ⟨_, _, _, _, I⟩
    · rw [if_pos c3] at k
      refine ok_aload_n dX5_mean_23 rfl rfl ?_
      refine ok_iconst (v := nI 4) dX5_mean_24 (by decide) ?_
      refine call_X5_meets dX5_mean_25 lk_X5_77 ⟨Nat.le_of_ble_eq_true rfl, Nat.le_of_ble_eq_true rfl, Nat.le_of_ble_eq_true rfl⟩ (by assumption) (Nat.le_of_ble_eq_true rfl) ?_
      refine c_X5_meets I (by decide) (fun h' x' I' => ?_)
      refine ok_goto (tgt := 43) dX5_mean_28 (by decide) ?_
      refine ok_iret dX5_mean_43 rfl rfl ⟨Nat.le_of_ble_eq_true rfl, Nat.le_of_ble_eq_true rfl⟩ ?_
      exact k h' (x'.m (by decide)) ⟨_, _, _, _, I'⟩
theorem l_X5_take {p x : Nat} {l : List Nat} {F : Nat → Int32} {G0 : Nat → Nat} {v : Value} {fi : Nat} {wk : Int64} {ru : Nat} (hp : p < 12) (hl : okl l) (hx0 : x < l.length) (hF : F p = nI (l.length - 1))
    (k : ∀ h' G, hx [49] h h' → hc h' 48 = some (aK 12 F) → hc h' 49 = some (aI 216 G) → (∀ x, (x < 18 * p ∨ 18 * p + 18 ≤ x) → G x = G0 x) → (∀ i, i < (del l x).length → G (18 * p + i) = (del l x).getD i 0) → Q (some (.int (nI (l.getD x 0)))) h') :
    ∀ (d j : Nat) (h1 : mH) (G : Nat → Nat), j + d + 1 = l.length → x ≤ j → hx [49] h h1 → hc h1 46 = some (mdo fi wk ru sz li lz kd) → hc h1 48 = some (aK 12 F) → hc h1 49 = some (aI 216 G) → (∀ x, (x < 18 * p ∨ 18 * p + 18 ≤ x) → G x = G0 x) → (∀ q, q < x → G (18 * p + q) = l.getD q 0) → (∀ q, x ≤ q → q < j → G (18 * p + q) = l.getD (q + 1) 0) → (∀ q, j ≤ q → q < l.length → G (18 * p + q) = l.getD q 0) →
    Ok g MX5_take (m_J g MX5_take Q) 60 [some (.ref 46), some (.int (nI p)), some (.int (nI x)), some v, some (.int (nI (l.getD x 0))), some (.int (nI j))] [] h1 0 0 := by
  have hlen := hl.len
  have dl := del_len l x hx0
  intro d
  induction d with
  | zero =>
    intro j h1 G hj hxj x1 e0 e8 e9 ho g1 g2 g3
    refine ok_iload dX5_take_60 rfl ?_
    refine ok_aload_n dX5_take_62 rfl rfl ?_
    refine ok_get dX5_take_63 fl_X5_13 (by assumption) (by rfl) ?_
    refine ok_iload_n dX5_take_66 rfl ?_
    first | refine okN_iald dX5_take_67 (by assumption) (by omega) (by decide) ?_ | refine okF_iald dX5_take_67 (by assumption) (by omega) (by omega) ?_ | refine okN_kald dX5_take_67 (by assumption) (by omega) (by decide) ?_
    rw [hF]
    refine okN_icmp_ge (tgt := 103) dX5_take_68 (by decide) (by omega) (by omega) (fun c1 => ?_) (fun c1 => ?_)
    · refine ok_iload dX5_take_103 rfl ?_
      refine ok_iret dX5_take_105 rfl rfl ⟨Nat.le_of_ble_eq_true rfl, Nat.le_of_ble_eq_true rfl⟩ ?_
      refine k h1 G x1 e8 e9 ho (fun q hq => ?_)
      rw [del_get l x q hx0]
      by_cases c : q < x
      · rw [if_pos c]; exact g1 q c
      · rw [if_neg c]; exact g2 q (by omega) (by omega)
    · exact absurd c1 (by omega)
  | succ d ih =>
    intro j h1 G hj hxj x1 e0 e8 e9 ho g1 g2 g3
    refine ok_iload dX5_take_60 rfl ?_
    refine ok_aload_n dX5_take_62 rfl rfl ?_
    refine ok_get dX5_take_63 fl_X5_13 (by assumption) (by rfl) ?_
    refine ok_iload_n dX5_take_66 rfl ?_
    first | refine okN_iald dX5_take_67 (by assumption) (by omega) (by decide) ?_ | refine okF_iald dX5_take_67 (by assumption) (by omega) (by omega) ?_ | refine okN_kald dX5_take_67 (by assumption) (by omega) (by decide) ?_
    rw [hF]
    refine okN_icmp_ge (tgt := 103) dX5_take_68 (by decide) (by omega) (by omega) (fun c1 => ?_) (fun c1 => ?_)
    · exact absurd c1 (by omega)
    · refine ok_aload_n dX5_take_71 rfl rfl ?_
      refine ok_get dX5_take_72 fl_X5_16 (by assumption) (by rfl) ?_
      refine ok_bipush (v := nI 18) dX5_take_75 (by decide) ?_
      refine ok_iload_n dX5_take_77 rfl ?_
      first | refine okN_imul dX5_take_78 ?_ | refine ok_imul dX5_take_78 ?_
      refine ok_iload dX5_take_79 rfl ?_
      first | refine okN_iadd dX5_take_81 ?_ | refine ok_iadd dX5_take_81 ?_
      refine ok_aload_n dX5_take_82 rfl rfl ?_
      refine ok_get dX5_take_83 fl_X5_16 (by assumption) (by rfl) ?_
      refine ok_bipush (v := nI 18) dX5_take_86 (by decide) ?_
      refine ok_iload_n dX5_take_88 rfl ?_
      first | refine okN_imul dX5_take_89 ?_ | refine ok_imul dX5_take_89 ?_
      refine ok_iload dX5_take_90 rfl ?_
      first | refine okN_iadd dX5_take_92 ?_ | refine ok_iadd dX5_take_92 ?_
      refine ok_iconst (v := nI 1) dX5_take_93 (by decide) ?_
      first | refine okN_iadd dX5_take_94 ?_ | refine ok_iadd dX5_take_94 ?_
      first | refine okN_iald dX5_take_95 (by assumption) (by omega) (by decide) ?_ | refine okF_iald dX5_take_95 (by assumption) (by omega) (by omega) ?_ | refine okN_kald dX5_take_95 (by assumption) (by omega) (by decide) ?_
      first | refine okN_iast dX5_take_96 (by assumption) (by omega) (by decide) (fun h2 hx2 he2 => ?_) | refine okC_iast dX5_take_96 (by assumption) (by omega) (by omega) (by omega) (fun h2 hx2 he2 => ?_) | refine okF_iast dX5_take_96 (by assumption) (by omega) (by omega) (fun h2 hx2 he2 => ?_) | refine okN_kast dX5_take_96 (by assumption) (by omega) (by decide) (fun h2 hx2 he2 => ?_)
      refine okN_inc dX5_take_97 rfl (st_6_5 rfl) (Nat.le_of_ble_eq_true rfl) ?_
      refine ok_goto (tgt := 60) dX5_take_100 (by decide) ?_
      refine ih (j + 1) h2 _ (by omega) (by omega) (x1.tr' hx2) (hx2.at (by decide) e0) (hx2.at (by decide) e8) he2 (fun q hq => ?_) (fun q hq => ?_) (fun q h3 h4 => ?_) (fun q h3 h4 => ?_)
      · rw [up_ne (by omega)]; exact ho q hq
      · rw [up_ne (by omega)]; exact g1 q hq
      · by_cases c : q = j
        · rw [c, up_eq, Nat.add_assoc]
          exact g3 (j + 1) (by omega) (by omega)
        · rw [up_ne (by omega)]; exact g2 q h3 (by omega)
      · rw [up_ne (by omega)]; exact g3 q (by omega) h4
theorem p_X5_take {p i : Int32} (I : IM h S) (k : ∀ h', fM h h' → IM h' (sp_take S p i).2 → Q (some (.int (sp_take S p i).1)) h') : Ok g MX5_take (m_J g MX5_take Q) 0 [some (.ref 46), some (.int p), some (.int i), none, none, none] [] h 0 0 := by
  obtain ⟨sz, li, lz, kd, I⟩ := I
  have e0 := I.1
  unfold sp_take ofp at k
  refine ok_aload_n dX5_take_0 rfl rfl ?_
  refine ok_iload_n dX5_take_1 rfl ?_
  refine call_X5_looked dX5_take_2 lk_X5_81 ⟨Nat.le_of_ble_eq_true rfl, Nat.le_of_ble_eq_true rfl, Nat.le_of_ble_eq_true rfl⟩ (by assumption) (Nat.le_of_ble_eq_true rfl) ?_
  refine c_X5_looked I (fun q => ?_) (fun j h' q1 q2 x' I' => ?_) (fun j q1 q2 q3 q4 => ?_)
  · rw [q] at k
    refine ok_istore_n dX5_take_5 (st_6_3 rfl) (Nat.le_of_ble_eq_true rfl) ?_
    refine ok_iload_n dX5_take_6 rfl ?_
    refine ok_if_ge (tgt := 12) dX5_take_7 (by decide) (fun c2 => ?_) (fun c2 => ?_)
    · exact absurd c2 (by decide)
    · refine ok_iload_n dX5_take_10 rfl ?_
      refine ok_iret dX5_take_11 rfl rfl ⟨Nat.le_of_ble_eq_true rfl, Nat.le_of_ble_eq_true rfl⟩ ?_
      exact k h fM.rf ⟨_, _, _, _, I⟩
  · rw [q1] at k
    dsimp only at k
    rw [if_neg (by rw [q2]; decide)] at k
    refine ok_istore_n dX5_take_5 (st_6_3 rfl) (Nat.le_of_ble_eq_true rfl) ?_
    refine ok_iload_n dX5_take_6 rfl ?_
    refine ok_if_ge (tgt := 12) dX5_take_7 (by decide) (fun c2 => ?_) (fun c2 => ?_)
    · exact absurd c2 (by decide)
    · refine ok_iload_n dX5_take_10 rfl ?_
      refine ok_iret dX5_take_11 rfl rfl ⟨Nat.le_of_ble_eq_true rfl, Nat.le_of_ble_eq_true rfl⟩ ?_
      exact k h' (x'.m (by decide)) ⟨_, _, _, _, I'⟩
  · rw [q1] at k
    dsimp only at k
    rw [if_pos q4] at k
    subst q3
    refine ok_istore_n dX5_take_5 (st_6_3 rfl) (Nat.le_of_ble_eq_true rfl) ?_
    refine ok_iload_n dX5_take_6 rfl ?_
    refine okN_if_ge (tgt := 12) dX5_take_7 (by decide) (by omega) ?_
    obtain ⟨-, -, ⟨F, e1, f1⟩, ⟨G, e2, g2⟩, -, -, k6, -⟩ := id I
    have ol := k6 j q2 q4
    have hlen := ol.len
    refine ok_iload_n dX5_take_12 rfl ?_
    refine ok_iconst (v := nI 0) dX5_take_13 (by decide) ?_
    refine ok_aload_n dX5_take_14 rfl rfl ?_
    refine ok_get dX5_take_15 fl_X5_13 (by assumption) (by rfl) ?_
    refine ok_iload_n dX5_take_18 rfl ?_
    first | refine okN_iald dX5_take_19 (by assumption) (by omega) (by decide) ?_ | refine okF_iald dX5_take_19 (by assumption) (by omega) (by omega) ?_ | refine okN_kald dX5_take_19 (by assumption) (by omega) (by decide) ?_
    rw [f1 j q2, if_pos q4]
    refine ok_iconst (v := nI 1) dX5_take_20 (by decide) ?_
    refine ok_isub dX5_take_21 ?_
    refine call_X5_in dX5_take_22 lk_X5_69 ⟨Nat.le_of_ble_eq_true rfl, Nat.le_of_ble_eq_true rfl, Nat.le_of_ble_eq_true rfl⟩ (Nat.le_of_ble_eq_true rfl) ?_
    refine c_X5_inQ (n := (S.2.1 j).length) (by omega) (fun x z1 z2 z3 => ?_) (fun z => ?_)
    · rw [z1] at k
      dsimp only at k
      subst z3
      have dl := del_len _ x z2
      refine okN_if_ne (tgt := 34) dX5_take_25 (by decide) (by omega) (fun c4 => ?_) (fun c4 => ?_)
      · refine ok_aload_n dX5_take_34 rfl rfl ?_
        refine ok_get dX5_take_35 fl_X5_16 (by assumption) (by rfl) ?_
        refine ok_bipush (v := nI 18) dX5_take_38 (by decide) ?_
        refine ok_iload_n dX5_take_40 rfl ?_
        first | refine okN_imul dX5_take_41 ?_ | refine ok_imul dX5_take_41 ?_
        refine ok_iload_n dX5_take_42 rfl ?_
        first | refine okN_iadd dX5_take_43 ?_ | refine ok_iadd dX5_take_43 ?_
        first | refine okN_iald dX5_take_44 (by assumption) (by omega) (by decide) ?_ | refine okF_iald dX5_take_44 (by assumption) (by omega) (by omega) ?_ | refine okN_kald dX5_take_44 (by assumption) (by omega) (by decide) ?_
        rw [g2 j q2 q4 x z2]
        refine ok_istore dX5_take_45 (st_6_4 rfl) (Nat.le_of_ble_eq_true rfl) ?_
        refine ok_aload_n dX5_take_47 rfl rfl ?_
        refine ok_get dX5_take_48 fl_X5_13 (by assumption) (by rfl) ?_
        refine ok_iload_n dX5_take_51 rfl ?_
        refine ok_dup2 dX5_take_52 rfl rfl ?_
        first | refine okN_iald dX5_take_53 (by assumption) (by omega) (by decide) ?_ | refine okF_iald dX5_take_53 (by assumption) (by omega) (by omega) ?_ | refine okN_kald dX5_take_53 (by assumption) (by omega) (by decide) ?_
        rw [f1 j q2, if_pos q4]
        refine ok_iconst (v := nI 1) dX5_take_54 (by decide) ?_
        first | refine okN_isub dX5_take_55 (by omega) ?_ | refine ok_isub dX5_take_55 ?_
        first | refine okN_iast dX5_take_56 (by assumption) (by omega) (by decide) (fun h1 hx1 he1 => ?_) | refine okC_iast dX5_take_56 (by assumption) (by omega) (by omega) (by omega) (fun h1 hx1 he1 => ?_) | refine okF_iast dX5_take_56 (by assumption) (by omega) (by omega) (fun h1 hx1 he1 => ?_) | refine okN_kast dX5_take_56 (by assumption) (by omega) (by decide) (fun h1 hx1 he1 => ?_)
        refine ok_iload_n dX5_take_57 rfl ?_
        refine ok_istore dX5_take_58 (st_6_5 rfl) (Nat.le_of_ble_eq_true rfl) ?_
        refine l_X5_take (h := h1) (G0 := G) (l := S.2.1 j) (F := up F j (nI ((S.2.1 j).length - 1))) q2 ol z2 up_eq (fun h' G' xh e8 e9 o r => ?_) ((S.2.1 j).length - x - 1) x h1 G (by omega) (Nat.le_refl _) hx.rf (hx1.at (by decide) e0) he1 (hx1.at (by decide) e2) (fun _ _ => rfl) (fun q hq => g2 j q2 q4 q (by omega)) (fun q h3 h4 => by omega) (fun q h3 h4 => g2 j q2 q4 q h4)
        have xx : hx [48, 49] h h' := hx1.tr xh (by simp) (by simp)
        rw [show (S.2.1 j).length - 1 = (del (S.2.1 j) x).length by omega] at e8
        exact k h' (xx.m (by decide)) ⟨_, _, _, _, I.setP xx (by decide) (K48_up f1 q4 e8) (K49_up (okl_del ol z2).len (fun q hq t => (k6 q hq t).len) g2 o r e9) (okl_del ol z2)⟩
      · exact absurd c4 (by decide)
    · rw [z] at k
      dsimp only at k
      refine okN_if_ne (tgt := 34) dX5_take_25 (by decide) (by omega) (fun c4 => ?_) (fun c4 => ?_)
      · exact absurd c4 (by decide)
      · refine ok_aload_n dX5_take_28 rfl rfl ?_
        refine ok_iconst (v := nI 2) dX5_take_29 (by decide) ?_
        refine call_X5_meets dX5_take_30 lk_X5_77 ⟨Nat.le_of_ble_eq_true rfl, Nat.le_of_ble_eq_true rfl, Nat.le_of_ble_eq_true rfl⟩ (by assumption) (Nat.le_of_ble_eq_true rfl) ?_
        refine c_X5_meets I (by decide) (fun h' x' I' => ?_)
        refine ok_iret dX5_take_33 rfl rfl ⟨Nat.le_of_ble_eq_true rfl, Nat.le_of_ble_eq_true rfl⟩ ?_
        exact k h' (x'.m (by decide)) ⟨_, _, _, _, I'⟩
theorem l_X5_told {p : Nat} {w v3 : Int32} (I : MI h S sz li lz kd) (hp : p < 12) (ht : S.1 p = true) (k : Ok g MX5_told (m_J g MX5_told Q) 90 [some (.ref 46), some (.int (nI p)), some (.int w), some (.int v3), some (.int (nI (uhN (S.2.1 p) (S.2.1 p).length))), some (.int (nI (S.2.1 p).length))] [] h 0 0) :
    ∀ (d i : Nat), i + d = (S.2.1 p).length → Ok g MX5_told (m_J g MX5_told Q) 29 [some (.ref 46), some (.int (nI p)), some (.int w), some (.int v3), some (.int (nI (uhN (S.2.1 p) i))), some (.int (nI i))] [] h 0 0 := by
  obtain ⟨e0, -, ⟨F, e1, f1⟩, ⟨G, e2, g2⟩, -, -, k6, -⟩ := id I
  have ol := k6 p hp ht
  have hlen := ol.len
  have gs := ol.2.2
  intro d
  induction d with
  | zero =>
    intro i hi
    refine ok_iload dX5_told_29 rfl ?_
    refine ok_aload_n dX5_told_31 rfl rfl ?_
    refine ok_get dX5_told_32 fl_X5_13 (by assumption) (by rfl) ?_
    refine ok_iload_n dX5_told_35 rfl ?_
    first | refine okN_iald dX5_told_36 (by assumption) (by omega) (by decide) ?_ | refine okF_iald dX5_told_36 (by assumption) (by omega) (by omega) ?_ | refine okN_kald dX5_told_36 (by assumption) (by omega) (by decide) ?_
    rw [f1 p hp, if_pos ht]
    refine okN_icmp_ge (tgt := 90) dX5_told_37 (by decide) (by omega) (by omega) (fun c1 => ?_) (fun c1 => ?_)
    · rw [show i = (S.2.1 p).length by omega]
      exact k
    · exact absurd c1 (by omega)
  | succ d ih =>
    intro i hi
    have gb := gd_sum (S.2.1 p) i
    have gb1 := gd_sum (S.2.1 p) (i - 1)
    have step := ih (i + 1) (by omega)
    unfold uhN at step
    refine ok_iload dX5_told_29 rfl ?_
    refine ok_aload_n dX5_told_31 rfl rfl ?_
    refine ok_get dX5_told_32 fl_X5_13 (by assumption) (by rfl) ?_
    refine ok_iload_n dX5_told_35 rfl ?_
    first | refine okN_iald dX5_told_36 (by assumption) (by omega) (by decide) ?_ | refine okF_iald dX5_told_36 (by assumption) (by omega) (by omega) ?_ | refine okN_kald dX5_told_36 (by assumption) (by omega) (by decide) ?_
    rw [f1 p hp, if_pos ht]
    refine okN_icmp_ge (tgt := 90) dX5_told_37 (by decide) (by omega) (by omega) (fun c1 => ?_) (fun c1 => ?_)
    · exact absurd c1 (by omega)
    · refine ok_iload dX5_told_40 rfl ?_
      refine ok_iload dX5_told_42 rfl ?_
      refine okN_if_eq (tgt := 76) dX5_told_44 (by decide) (by omega) (fun c2 => ?_) (fun c2 => ?_)
      · refine ok_iconst (v := nI 1) dX5_told_76 (by decide) ?_
        refine ok_goto (tgt := 81) dX5_told_77 (by decide) ?_
        first | refine okN_iadd dX5_told_81 ?_ | refine ok_iadd dX5_told_81 ?_
        refine ok_istore dX5_told_82 (st_6_4 rfl) (Nat.le_of_ble_eq_true rfl) ?_
        refine okN_inc dX5_told_84 rfl (st_6_5 rfl) (Nat.le_of_ble_eq_true rfl) ?_
        refine ok_goto (tgt := 29) dX5_told_87 (by decide) ?_
        rw [if_pos (Or.inl c2)] at step
        exact step
      · refine ok_aload_n dX5_told_47 rfl rfl ?_
        refine ok_get dX5_told_48 fl_X5_16 (by assumption) (by rfl) ?_
        refine ok_bipush (v := nI 18) dX5_told_51 (by decide) ?_
        refine ok_iload_n dX5_told_53 rfl ?_
        first | refine okN_imul dX5_told_54 ?_ | refine ok_imul dX5_told_54 ?_
        refine ok_iload dX5_told_55 rfl ?_
        first | refine okN_iadd dX5_told_57 ?_ | refine ok_iadd dX5_told_57 ?_
        first | refine okN_iald dX5_told_58 (by assumption) (by omega) (by decide) ?_ | refine okF_iald dX5_told_58 (by assumption) (by omega) (by omega) ?_ | refine okN_kald dX5_told_58 (by assumption) (by omega) (by decide) ?_
        refine ok_aload_n dX5_told_59 rfl rfl ?_
        refine ok_get dX5_told_60 fl_X5_16 (by assumption) (by rfl) ?_
        refine ok_bipush (v := nI 18) dX5_told_63 (by decide) ?_
        refine ok_iload_n dX5_told_65 rfl ?_
        first | refine okN_imul dX5_told_66 ?_ | refine ok_imul dX5_told_66 ?_
        refine ok_iload dX5_told_67 rfl ?_
        first | refine okN_iadd dX5_told_69 ?_ | refine ok_iadd dX5_told_69 ?_
        refine ok_iconst (v := nI 1) dX5_told_70 (by decide) ?_
        first | refine okN_isub dX5_told_71 (by omega) ?_ | refine ok_isub dX5_told_71 ?_
        first | refine okN_iald dX5_told_72 (by assumption) (by omega) (by decide) ?_ | refine okF_iald dX5_told_72 (by assumption) (by omega) (by omega) ?_ | refine okN_kald dX5_told_72 (by assumption) (by omega) (by decide) ?_
        rw [g2 p hp ht i c1, show 18 * p + i - 1 = 18 * p + (i - 1) by omega, g2 p hp ht (i - 1) (by omega)]
        refine okN_icmp_eq (tgt := 80) dX5_told_73 (by decide) (by omega) (by omega) (fun c3 => ?_) (fun c3 => ?_)
        · refine ok_iconst (v := nI 0) dX5_told_80 (by decide) ?_
          first | refine okN_iadd dX5_told_81 ?_ | refine ok_iadd dX5_told_81 ?_
          refine ok_istore dX5_told_82 (st_6_4 rfl) (Nat.le_of_ble_eq_true rfl) ?_
          refine okN_inc dX5_told_84 rfl (st_6_5 rfl) (Nat.le_of_ble_eq_true rfl) ?_
          refine ok_goto (tgt := 29) dX5_told_87 (by decide) ?_
          rw [if_neg (by omega)] at step
          exact step
        · refine ok_iconst (v := nI 1) dX5_told_76 (by decide) ?_
          refine ok_goto (tgt := 81) dX5_told_77 (by decide) ?_
          first | refine okN_iadd dX5_told_81 ?_ | refine ok_iadd dX5_told_81 ?_
          refine ok_istore dX5_told_82 (st_6_4 rfl) (Nat.le_of_ble_eq_true rfl) ?_
          refine okN_inc dX5_told_84 rfl (st_6_5 rfl) (Nat.le_of_ble_eq_true rfl) ?_
          refine ok_goto (tgt := 29) dX5_told_87 (by decide) ?_
          rw [if_pos (Or.inr c3)] at step
          exact step
theorem p_X5_told {p w : Int32} (I : IM h S) (k : ∀ h', fM h h' → IM h' (sp_told S p w).2 → Q (some (.int (sp_told S p w).1)) h') : Ok g MX5_told (m_J g MX5_told Q) 0 [some (.ref 46), some (.int p), some (.int w), none, none, none] [] h 0 0 := by
  obtain ⟨sz, li, lz, kd, I⟩ := I
  have e0 := I.1
  unfold sp_told ofp at k
  refine ok_iload_n dX5_told_0 rfl ?_
  refine ok_iconst (v := nI 0) dX5_told_1 (by decide) ?_
  refine ok_iconst (v := nI 3) dX5_told_2 (by decide) ?_
  refine call_X5_in dX5_told_3 lk_X5_69 ⟨Nat.le_of_ble_eq_true rfl, Nat.le_of_ble_eq_true rfl, Nat.le_of_ble_eq_true rfl⟩ (Nat.le_of_ble_eq_true rfl) ?_
  refine c_X5_inP (n := 4) (by decide) (by decide) (fun x q1 q2 q3 => ?_) (fun q => ?_)
  · rw [q1] at k
    dsimp only at k
    subst q3
    have hx4 := q2; clear q1 q2
    refine okN_if_ne (tgt := 11) dX5_told_6 (by decide) (by omega) (fun c1 => ?_) (fun c1 => ?_)
    · refine ok_aload_n dX5_told_11 rfl rfl ?_
      refine ok_iload_n dX5_told_12 rfl ?_
      refine call_X5_looked dX5_told_13 lk_X5_81 ⟨Nat.le_of_ble_eq_true rfl, Nat.le_of_ble_eq_true rfl, Nat.le_of_ble_eq_true rfl⟩ (by assumption) (Nat.le_of_ble_eq_true rfl) ?_
      refine c_X5_looked I (fun q => ?_) (fun j h' q1 q2 x' I' => ?_) (fun j q1 q2 q3 q4 => ?_)
      · rw [q] at k
        refine ok_istore_n dX5_told_16 (st_6_3 rfl) (Nat.le_of_ble_eq_true rfl) ?_
        refine ok_iload_n dX5_told_17 rfl ?_
        refine ok_if_ge (tgt := 23) dX5_told_18 (by decide) (fun c2 => ?_) (fun c2 => ?_)
        · exact absurd c2 (by decide)
        · refine ok_iload_n dX5_told_21 rfl ?_
          refine ok_iret dX5_told_22 rfl rfl ⟨Nat.le_of_ble_eq_true rfl, Nat.le_of_ble_eq_true rfl⟩ ?_
          exact k h fM.rf ⟨_, _, _, _, I⟩
      · rw [q1] at k
        dsimp only at k
        rw [if_neg (by rw [q2]; decide)] at k
        refine ok_istore_n dX5_told_16 (st_6_3 rfl) (Nat.le_of_ble_eq_true rfl) ?_
        refine ok_iload_n dX5_told_17 rfl ?_
        refine ok_if_ge (tgt := 23) dX5_told_18 (by decide) (fun c2 => ?_) (fun c2 => ?_)
        · exact absurd c2 (by decide)
        · refine ok_iload_n dX5_told_21 rfl ?_
          refine ok_iret dX5_told_22 rfl rfl ⟨Nat.le_of_ble_eq_true rfl, Nat.le_of_ble_eq_true rfl⟩ ?_
          exact k h' (x'.m (by decide)) ⟨_, _, _, _, I'⟩
      · rw [q1] at k
        dsimp only at k
        rw [if_pos q4] at k
        subst q3
        refine ok_istore_n dX5_told_16 (st_6_3 rfl) (Nat.le_of_ble_eq_true rfl) ?_
        refine ok_iload_n dX5_told_17 rfl ?_
        refine okN_if_ge (tgt := 23) dX5_told_18 (by decide) (by omega) ?_
        obtain ⟨-, -, ⟨F, e1, f1⟩, ⟨G, e2, g2⟩, -, -, k6, -⟩ := id I
        have ol := k6 j q2 q4
        have hlen := ol.len
        refine ok_iconst (v := nI 0) dX5_told_23 (by decide) ?_
        refine ok_istore dX5_told_24 (st_6_4 rfl) (Nat.le_of_ble_eq_true rfl) ?_
        refine ok_iconst (v := nI 0) dX5_told_26 (by decide) ?_
        refine ok_istore dX5_told_27 (st_6_5 rfl) (Nat.le_of_ble_eq_true rfl) ?_
        refine l_X5_told I q2 q4 ?_ (S.2.1 j).length 0 (by omega)
        rcases (show x = 0 ∨ x = 1 ∨ x = 2 ∨ x = 3 by omega) with rfl | rfl | rfl | rfl
        · refine ok_iload_n dX5_told_90 rfl ?_
          refine okN_if_ne (tgt := 102) dX5_told_91 (by decide) (by omega) (fun c3 => ?_) (fun c3 => ?_)
          · exact absurd c3 (by decide)
          refine ok_aload_n dX5_told_94 rfl rfl ?_
          refine ok_iload_n dX5_told_95 rfl ?_
          refine call_X5_cards dX5_told_96 lk_X5_84 ⟨Nat.le_of_ble_eq_true rfl, Nat.le_of_ble_eq_true rfl, Nat.le_of_ble_eq_true rfl⟩ (by assumption) (Nat.le_of_ble_eq_true rfl) ?_
          refine c_X5_cards I q2 q4 ?_
          refine ok_goto (tgt := 148) dX5_told_99 (by decide) ?_
          refine ok_iret dX5_told_148 rfl rfl ⟨Nat.le_of_ble_eq_true rfl, Nat.le_of_ble_eq_true rfl⟩ ?_
          exact k h fM.rf ⟨_, _, _, _, I⟩
        · refine ok_iload_n dX5_told_90 rfl ?_
          refine okN_if_ne (tgt := 102) dX5_told_91 (by decide) (by omega) (fun c3 => ?_) (fun c3 => ?_)
          · refine ok_iload_n dX5_told_102 rfl ?_
            refine ok_iconst (v := nI 1) dX5_told_103 (by decide) ?_
            refine okN_icmp_ne (tgt := 116) dX5_told_104 (by decide) (by omega) (by omega) (fun c5 => ?_) (fun c5 => ?_)
            · exact absurd rfl c5
            refine ok_aload_n dX5_told_107 rfl rfl ?_
            refine ok_get dX5_told_108 fl_X5_13 (by assumption) (by rfl) ?_
            refine ok_iload_n dX5_told_111 rfl ?_
            first | refine okN_iald dX5_told_112 (by assumption) (by omega) (by decide) ?_ | refine okF_iald dX5_told_112 (by assumption) (by omega) (by omega) ?_ | refine okN_kald dX5_told_112 (by assumption) (by omega) (by decide) ?_
            rw [f1 j q2, if_pos q4]
            refine ok_goto (tgt := 148) dX5_told_113 (by decide) ?_
            refine ok_iret dX5_told_148 rfl rfl ⟨Nat.le_of_ble_eq_true rfl, Nat.le_of_ble_eq_true rfl⟩ ?_
            exact k h fM.rf ⟨_, _, _, _, I⟩
          · exact absurd c3 (by decide)
        · refine ok_iload_n dX5_told_90 rfl ?_
          refine okN_if_ne (tgt := 102) dX5_told_91 (by decide) (by omega) (fun c3 => ?_) (fun c3 => ?_)
          · refine ok_iload_n dX5_told_102 rfl ?_
            refine ok_iconst (v := nI 1) dX5_told_103 (by decide) ?_
            refine okN_icmp_ne (tgt := 116) dX5_told_104 (by decide) (by omega) (by omega) (fun c5 => ?_) (fun c5 => ?_)
            · refine ok_iload_n dX5_told_116 rfl ?_
              refine ok_iconst (v := nI 3) dX5_told_117 (by decide) ?_
              refine okN_icmp_ne (tgt := 126) dX5_told_118 (by decide) (by omega) (by omega) (fun c6 => ?_) (fun c6 => ?_)
              · refine ok_aload_n dX5_told_126 rfl rfl ?_
                refine ok_get dX5_told_127 fl_X5_13 (by assumption) (by rfl) ?_
                refine ok_iload_n dX5_told_130 rfl ?_
                first | refine okN_iald dX5_told_131 (by assumption) (by omega) (by decide) ?_ | refine okF_iald dX5_told_131 (by assumption) (by omega) (by omega) ?_ | refine okN_kald dX5_told_131 (by assumption) (by omega) (by decide) ?_
                rw [f1 j q2, if_pos q4]
                refine okN_if_ne (tgt := 139) dX5_told_132 (by decide) (by omega) (fun c7 => ?_) (fun c7 => ?_)
                · refine ok_aload_n dX5_told_139 rfl rfl ?_
                  refine ok_get dX5_told_140 fl_X5_16 (by assumption) (by rfl) ?_
                  refine ok_bipush (v := nI 18) dX5_told_143 (by decide) ?_
                  refine ok_iload_n dX5_told_145 rfl ?_
                  first | refine okN_imul dX5_told_146 ?_ | refine ok_imul dX5_told_146 ?_
                  first | refine okN_iald dX5_told_147 (by assumption) (by omega) (by decide) ?_ | refine okF_iald dX5_told_147 (by assumption) (by omega) (by omega) ?_ | refine okN_kald dX5_told_147 (by assumption) (by omega) (by decide) ?_
                  have := g2 j q2 q4 0 c7
                  rw [Nat.add_zero] at this
                  rw [this]
                  refine ok_iret dX5_told_148 rfl rfl ⟨Nat.le_of_ble_eq_true rfl, Nat.le_of_ble_eq_true rfl⟩ ?_
                  exact k h fM.rf ⟨_, _, _, _, I⟩
                · refine ok_iconst (v := nI 0) dX5_told_135 (by decide) ?_
                  refine ok_goto (tgt := 148) dX5_told_136 (by decide) ?_
                  refine ok_iret dX5_told_148 rfl rfl ⟨Nat.le_of_ble_eq_true rfl, Nat.le_of_ble_eq_true rfl⟩ ?_
                  have e3 : S.2.1 j = [] := List.eq_nil_of_length_eq_zero c7
                  rw [e3] at k
                  exact k h fM.rf ⟨_, _, _, _, I⟩
              · exact absurd c6 (by decide)
            · exact absurd c5 (by decide)
          · exact absurd c3 (by decide)
        · refine ok_iload_n dX5_told_90 rfl ?_
          refine okN_if_ne (tgt := 102) dX5_told_91 (by decide) (by omega) (fun c3 => ?_) (fun c3 => ?_)
          · refine ok_iload_n dX5_told_102 rfl ?_
            refine ok_iconst (v := nI 1) dX5_told_103 (by decide) ?_
            refine okN_icmp_ne (tgt := 116) dX5_told_104 (by decide) (by omega) (by omega) (fun c5 => ?_) (fun c5 => ?_)
            · refine ok_iload_n dX5_told_116 rfl ?_
              refine ok_iconst (v := nI 3) dX5_told_117 (by decide) ?_
              refine okN_icmp_ne (tgt := 126) dX5_told_118 (by decide) (by omega) (by omega) (fun c6 => ?_) (fun c6 => ?_)
              · exact absurd rfl c6
              · refine ok_iload dX5_told_121 rfl ?_
                refine ok_goto (tgt := 148) dX5_told_123 (by decide) ?_
                refine ok_iret dX5_told_148 rfl rfl ⟨Nat.le_of_ble_eq_true rfl, Nat.le_of_ble_eq_true rfl⟩ ?_
                exact k h fM.rf ⟨_, _, _, _, I⟩
            · exact absurd c5 (by decide)
          · exact absurd c3 (by decide)
    · exact absurd c1 (by decide)
  · rw [q] at k
    refine okN_if_ne (tgt := 11) dX5_told_6 (by decide) (by omega) (fun c1 => ?_) (fun c1 => ?_)
    · exact absurd c1 (by decide)
    · refine ok_iconst (v := -1) dX5_told_9 (by decide) ?_
      refine ok_iret dX5_told_10 rfl rfl ⟨Nat.le_of_ble_eq_true rfl, Nat.le_of_ble_eq_true rfl⟩ ?_
      exact k h fM.rf ⟨_, _, _, _, I⟩
theorem l_X5_count {w : Int32} (I : MI h S sz li lz kd) (k : Ok g MX5_count (m_J g MX5_count Q) 46 [some (.ref 46), some (.int w), some (.int (nI (cnM S w 12))), some (.int (nI 12))] [] h 0 0) :
    ∀ (d p : Nat), p + d = 12 → Ok g MX5_count (m_J g MX5_count Q) 4 [some (.ref 46), some (.int w), some (.int (nI (cnM S w p))), some (.int (nI p))] [] h 0 0 := by
  obtain ⟨e0, -, ⟨F, e1, f1⟩, -, -, -, k6, -⟩ := id I
  intro d
  induction d with
  | zero =>
    intro p hp
    have ep : p = 12 := by omega
    subst ep
    refine ok_iload_n dX5_count_4 rfl ?_
    refine ok_bipush (v := nI 12) dX5_count_5 (by decide) ?_
    refine okN_icmp_ge (tgt := 46) dX5_count_7 (by decide) (by omega) (by omega) (fun c1 => ?_) (fun c1 => ?_)
    · exact k
    · exact absurd c1 (by omega)
  | succ d ih =>
    intro p hp
    have nx1 := ih (p + 1) (by omega)
    unfold cnM at nx1
    refine ok_iload_n dX5_count_4 rfl ?_
    refine ok_bipush (v := nI 12) dX5_count_5 (by decide) ?_
    refine okN_icmp_ge (tgt := 46) dX5_count_7 (by decide) (by omega) (by omega) (fun c1 => ?_) (fun c1 => ?_)
    · exact absurd c1 (by omega)
    · refine ok_iload_n dX5_count_10 rfl ?_
      refine ok_aload_n dX5_count_11 rfl rfl ?_
      refine ok_get dX5_count_12 fl_X5_13 (by assumption) (by rfl) ?_
      refine ok_iload_n dX5_count_15 rfl ?_
      first | refine okN_iald dX5_count_16 (by assumption) (by omega) (by decide) ?_ | refine okF_iald dX5_count_16 (by assumption) (by omega) (by omega) ?_ | refine okN_kald dX5_count_16 (by assumption) (by omega) (by decide) ?_
      rw [f1 p c1]
      cases ht : S.1 p with
      | true =>
        rw [if_pos ht] at nx1
        rw [if_pos rfl]
        have hl := (k6 p c1 ht).len
        refine okN_if_ge (tgt := 24) dX5_count_17 (by decide) (by omega) ?_
        refine ok_iload_n dX5_count_24 rfl ?_
        refine ok_iconst (v := nI 1) dX5_count_25 (by decide) ?_
        refine ok_icmp_ne (tgt := 33) dX5_count_26 (by decide) (fun c3 => ?_) (fun c3 => ?_)
        · rw [if_neg c3] at nx1
          refine ok_aload_n dX5_count_33 rfl rfl ?_
          refine ok_iload_n dX5_count_34 rfl ?_
          refine call_X5_cards dX5_count_35 lk_X5_84 ⟨Nat.le_of_ble_eq_true rfl, Nat.le_of_ble_eq_true rfl, Nat.le_of_ble_eq_true rfl⟩ (by assumption) (Nat.le_of_ble_eq_true rfl) ?_
          refine c_X5_cards I c1 ht ?_
          first | refine okN_iadd dX5_count_38 ?_ | refine ok_iadd dX5_count_38 ?_
          refine ok_istore_n dX5_count_39 (st_4_2 rfl) (Nat.le_of_ble_eq_true rfl) ?_
          refine okN_inc dX5_count_40 rfl (st_4_3 rfl) (Nat.le_of_ble_eq_true rfl) ?_
          refine ok_goto (tgt := 4) dX5_count_43 (by decide) ?_
          exact nx1
        · rw [if_pos c3] at nx1
          refine ok_iconst (v := nI 1) dX5_count_29 (by decide) ?_
          refine ok_goto (tgt := 38) dX5_count_30 (by decide) ?_
          first | refine okN_iadd dX5_count_38 ?_ | refine ok_iadd dX5_count_38 ?_
          refine ok_istore_n dX5_count_39 (st_4_2 rfl) (Nat.le_of_ble_eq_true rfl) ?_
          refine okN_inc dX5_count_40 rfl (st_4_3 rfl) (Nat.le_of_ble_eq_true rfl) ?_
          refine ok_goto (tgt := 4) dX5_count_43 (by decide) ?_
          exact nx1
      | false =>
        rw [if_neg (by rw [ht]; decide)] at nx1
        rw [if_neg (by decide)]
        refine ok_if_ge (tgt := 24) dX5_count_17 (by decide) (fun c2 => ?_) (fun c2 => ?_)
        · exact absurd c2 m9_neg
        · refine ok_iconst (v := nI 0) dX5_count_20 (by decide) ?_
          refine ok_goto (tgt := 38) dX5_count_21 (by decide) ?_
          first | refine okN_iadd dX5_count_38 ?_ | refine ok_iadd dX5_count_38 ?_
          refine ok_istore_n dX5_count_39 (st_4_2 rfl) (Nat.le_of_ble_eq_true rfl) ?_
          refine okN_inc dX5_count_40 rfl (st_4_3 rfl) (Nat.le_of_ble_eq_true rfl) ?_
          refine ok_goto (tgt := 4) dX5_count_43 (by decide) ?_
          exact nx1
theorem p_X5_count {w : Int32} (I : IM h S) (k : ∀ h', fM h h' → IM h' (sp_count S w).2 → Q (some (.int (sp_count S w).1)) h') : Ok g MX5_count (m_J g MX5_count Q) 0 [some (.ref 46), some (.int w), none, none] [] h 0 0 := by
  obtain ⟨sz, li, lz, kd, I⟩ := I
  have e0 := I.1
  unfold sp_count at k
  refine ok_iconst (v := nI 0) dX5_count_0 (by decide) ?_
  refine ok_istore_n dX5_count_1 (st_4_2 rfl) (Nat.le_of_ble_eq_true rfl) ?_
  refine ok_iconst (v := nI 0) dX5_count_2 (by decide) ?_
  refine ok_istore_n dX5_count_3 (st_4_3 rfl) (Nat.le_of_ble_eq_true rfl) ?_
  refine l_X5_count I ?_ 12 0 (by omega)
  rcases pl_cases 3 w (by decide) with e | ⟨x, e, hx5, rfl⟩
  · have pn := pl_not e
    rw [e] at k
    refine ok_iload_n dX5_count_46 rfl ?_
    refine ok_if_ne (tgt := 57) dX5_count_47 (by decide) (fun c1 => ?_) (fun c1 => ?_)
    · refine ok_iload_n dX5_count_57 rfl ?_
      refine ok_iconst (v := nI 1) dX5_count_58 (by decide) ?_
      refine ok_iconst (v := nI 2) dX5_count_59 (by decide) ?_
      refine call_X5_in dX5_count_60 lk_X5_69 ⟨Nat.le_of_ble_eq_true rfl, Nat.le_of_ble_eq_true rfl, Nat.le_of_ble_eq_true rfl⟩ (Nat.le_of_ble_eq_true rfl) ?_
      refine c_X5_in (by decide) (by decide) (fun a1 a2 => by omega) (fun a => ?_)
      refine okN_if_eq (tgt := 70) dX5_count_63 (by decide) (by omega) (fun c2 => ?_) (fun c2 => ?_)
      · refine ok_iconst (v := -1) dX5_count_70 (by decide) ?_
        refine ok_iret dX5_count_71 rfl rfl ⟨Nat.le_of_ble_eq_true rfl, Nat.le_of_ble_eq_true rfl⟩ ?_
        exact k h fM.rf ⟨_, _, _, _, I⟩
      · exact absurd c2 (by decide)
    · rw [c1] at pn
      have : (0 : Int32).toInt = 0 := rfl
      omega
  · rw [e] at k
    dsimp only at k
    rcases (show x = 0 ∨ x = 1 ∨ x = 2 by omega) with rfl | rfl | rfl
    · refine ok_iload_n dX5_count_46 rfl ?_
      refine okN_if_ne (tgt := 57) dX5_count_47 (by decide) (by omega) (fun c1 => ?_) (fun c1 => ?_)
      · exact absurd c1 (by decide)
      refine ok_aload_n dX5_count_50 rfl rfl ?_
      refine ok_get dX5_count_51 fl_X5_91 (by assumption) (by rfl) ?_
      refine ok_goto (tgt := 71) dX5_count_54 (by decide) ?_
      refine ok_iret dX5_count_71 rfl rfl ⟨Nat.le_of_ble_eq_true rfl, Nat.le_of_ble_eq_true rfl⟩ ?_
      exact k h fM.rf ⟨_, _, _, _, I⟩
    · rw [cnM_1]
      refine ok_iload_n dX5_count_46 rfl ?_
      refine okN_if_ne (tgt := 57) dX5_count_47 (by decide) (by omega) (fun c1 => ?_) (fun c1 => ?_)
      · refine ok_iload_n dX5_count_57 rfl ?_
        refine ok_iconst (v := nI 1) dX5_count_58 (by decide) ?_
        refine ok_iconst (v := nI 2) dX5_count_59 (by decide) ?_
        refine call_X5_in dX5_count_60 lk_X5_69 ⟨Nat.le_of_ble_eq_true rfl, Nat.le_of_ble_eq_true rfl, Nat.le_of_ble_eq_true rfl⟩ (Nat.le_of_ble_eq_true rfl) ?_
        refine c_X5_in (by decide) (by decide) (fun a1 a2 => ?_) (fun a => absurd a (by decide))
        refine okN_if_eq (tgt := 70) dX5_count_63 (by decide) (by omega) (fun c2 => ?_) (fun c2 => ?_)
        · exact absurd c2 (by decide)
        · refine ok_iload_n dX5_count_66 rfl ?_
          refine ok_goto (tgt := 71) dX5_count_67 (by decide) ?_
          refine ok_iret dX5_count_71 rfl rfl ⟨Nat.le_of_ble_eq_true rfl, Nat.le_of_ble_eq_true rfl⟩ ?_
          exact k h fM.rf ⟨_, _, _, _, I⟩
      · exact absurd c1 (by decide)
    · rw [cnM_2 S (by decide)]
      refine ok_iload_n dX5_count_46 rfl ?_
      refine okN_if_ne (tgt := 57) dX5_count_47 (by decide) (by omega) (fun c1 => ?_) (fun c1 => ?_)
      · refine ok_iload_n dX5_count_57 rfl ?_
        refine ok_iconst (v := nI 1) dX5_count_58 (by decide) ?_
        refine ok_iconst (v := nI 2) dX5_count_59 (by decide) ?_
        refine call_X5_in dX5_count_60 lk_X5_69 ⟨Nat.le_of_ble_eq_true rfl, Nat.le_of_ble_eq_true rfl, Nat.le_of_ble_eq_true rfl⟩ (Nat.le_of_ble_eq_true rfl) ?_
        refine c_X5_in (by decide) (by decide) (fun a1 a2 => ?_) (fun a => absurd a (by decide))
        refine okN_if_eq (tgt := 70) dX5_count_63 (by decide) (by omega) (fun c2 => ?_) (fun c2 => ?_)
        · exact absurd c2 (by decide)
        · refine ok_iload_n dX5_count_66 rfl ?_
          refine ok_goto (tgt := 71) dX5_count_67 (by decide) ?_
          refine ok_iret dX5_count_71 rfl rfl ⟨Nat.le_of_ble_eq_true rfl, Nat.le_of_ble_eq_true rfl⟩ ?_
          exact k h fM.rf ⟨_, _, _, _, I⟩
      · exact absurd c1 (by decide)
theorem l_X5_digest2 {p : Nat} {s : Int64} (I : MI h S sz li lz kd) (hp : p < 12) (ht : S.1 p = true) (k : ∀ z, Ok g MX5_digest (m_J g MX5_digest Q) 85 [some (.ref 46), some (.long (dgN (S.2.1 p) s (S.2.1 p).length)), none, some (.int (nI p)), z] [] h 0 0) :
    ∀ (d i : Nat), i + d = (S.2.1 p).length → Ok g MX5_digest (m_J g MX5_digest Q) 48 [some (.ref 46), some (.long (dgN (S.2.1 p) s i)), none, some (.int (nI p)), some (.int (nI i))] [] h 0 0 := by
  obtain ⟨e0, -, ⟨F, e1, f1⟩, ⟨G, e2, g2⟩, -, -, k6, -⟩ := id I
  have ol := k6 p hp ht
  have hlen := ol.len
  have gs := ol.2.2
  intro d
  induction d with
  | zero =>
    intro i hi
    refine ok_iload dX5_digest_48 rfl ?_
    refine ok_aload_n dX5_digest_50 rfl rfl ?_
    refine ok_get dX5_digest_51 fl_X5_13 (by assumption) (by rfl) ?_
    refine ok_iload_n dX5_digest_54 rfl ?_
    first | refine okN_iald dX5_digest_55 (by assumption) (by omega) (by decide) ?_ | refine okF_iald dX5_digest_55 (by assumption) (by omega) (by omega) ?_ | refine okN_kald dX5_digest_55 (by assumption) (by omega) (by decide) ?_
    rw [f1 p hp, if_pos ht]
    refine okN_icmp_ge (tgt := 85) dX5_digest_56 (by decide) (by omega) (by omega) (fun c1 => ?_) (fun c1 => ?_)
    · rw [show i = (S.2.1 p).length by omega]
      exact k _
    · exact absurd c1 (by omega)
  | succ d ih =>
    intro i hi
    have gb := gd_sum (S.2.1 p) i
    refine ok_iload dX5_digest_48 rfl ?_
    refine ok_aload_n dX5_digest_50 rfl rfl ?_
    refine ok_get dX5_digest_51 fl_X5_13 (by assumption) (by rfl) ?_
    refine ok_iload_n dX5_digest_54 rfl ?_
    first | refine okN_iald dX5_digest_55 (by assumption) (by omega) (by decide) ?_ | refine okF_iald dX5_digest_55 (by assumption) (by omega) (by omega) ?_ | refine okN_kald dX5_digest_55 (by assumption) (by omega) (by decide) ?_
    rw [f1 p hp, if_pos ht]
    refine okN_icmp_ge (tgt := 85) dX5_digest_56 (by decide) (by omega) (by omega) (fun c1 => ?_) (fun c1 => ?_)
    · exact absurd c1 (by omega)
    · refine ok_ldc2 dX5_digest_59 kl_X5_169 ?_
      refine ok_lload_n dX5_digest_62 rfl ?_
      refine ok_lmul dX5_digest_63 ?_
      refine ok_aload_n dX5_digest_64 rfl rfl ?_
      refine ok_get dX5_digest_65 fl_X5_16 (by assumption) (by rfl) ?_
      refine ok_bipush (v := nI 18) dX5_digest_68 (by decide) ?_
      refine ok_iload_n dX5_digest_70 rfl ?_
      first | refine okN_imul dX5_digest_71 ?_ | refine ok_imul dX5_digest_71 ?_
      refine ok_iload dX5_digest_72 rfl ?_
      first | refine okN_iadd dX5_digest_74 ?_ | refine ok_iadd dX5_digest_74 ?_
      first | refine okN_iald dX5_digest_75 (by assumption) (by omega) (by decide) ?_ | refine okF_iald dX5_digest_75 (by assumption) (by omega) (by omega) ?_ | refine okN_kald dX5_digest_75 (by assumption) (by omega) (by decide) ?_
      rw [g2 p hp ht i c1]
      refine ok_i2l dX5_digest_76 ?_
      rw [nI_l (by omega)]
      refine ok_ladd dX5_digest_77 ?_
      refine ok_lstore_n dX5_digest_78 (st2_5_1 rfl) (Nat.le_of_ble_eq_true rfl) ?_
      refine okN_inc dX5_digest_79 rfl (st_5_4 rfl) (Nat.le_of_ble_eq_true rfl) ?_
      refine ok_goto (tgt := 48) dX5_digest_82 (by decide) ?_
      exact ih (i + 1) (by omega)
theorem l_X5_digest (I : MI h S sz li lz kd) (k : Q (some (.long (sp_digest S))) h) : ∀ (d p : Nat) (z : Option Value), p + d = 12 → Ok g MX5_digest (m_J g MX5_digest Q) 12 [some (.ref 46), some (.long (dgS S p)), none, some (.int (nI p)), z] [] h 0 0 := by
  obtain ⟨e0, -, ⟨F, e1, f1⟩, ⟨G, e2, g2⟩, -, -, k6, -⟩ := id I
  intro d
  induction d with
  | zero =>
    intro p z hp
    have ep : p = 12 := by omega
    subst ep
    refine ok_iload_n dX5_digest_12 rfl ?_
    refine ok_bipush (v := nI 12) dX5_digest_13 (by decide) ?_
    refine okN_icmp_ge (tgt := 91) dX5_digest_15 (by decide) (by omega) (by omega) (fun c1 => ?_) (fun c1 => ?_)
    · refine ok_lload_n dX5_digest_91 rfl ?_
      refine ok_lret dX5_digest_92 rfl ⟨Nat.le_of_ble_eq_true rfl, Nat.le_of_ble_eq_true rfl⟩ ?_
      exact k
    · exact absurd c1 (by omega)
  | succ d ih =>
    intro p z hp
    have nx1 := fun z => ih (p + 1) z (by omega)
    unfold dgS at nx1
    refine ok_iload_n dX5_digest_12 rfl ?_
    refine ok_bipush (v := nI 12) dX5_digest_13 (by decide) ?_
    refine okN_icmp_ge (tgt := 91) dX5_digest_15 (by decide) (by omega) (by omega) (fun c1 => ?_) (fun c1 => ?_)
    · exact absurd c1 (by omega)
    · refine ok_ldc2 dX5_digest_18 kl_X5_169 ?_
      refine ok_lload_n dX5_digest_21 rfl ?_
      refine ok_lmul dX5_digest_22 ?_
      refine ok_aload_n dX5_digest_23 rfl rfl ?_
      refine ok_get dX5_digest_24 fl_X5_13 (by assumption) (by rfl) ?_
      refine ok_iload_n dX5_digest_27 rfl ?_
      first | refine okN_iald dX5_digest_28 (by assumption) (by omega) (by decide) ?_ | refine okF_iald dX5_digest_28 (by assumption) (by omega) (by omega) ?_ | refine okN_kald dX5_digest_28 (by assumption) (by omega) (by decide) ?_
      rw [f1 p c1]
      cases ht : S.1 p with
      | true =>
        rw [if_pos ht] at nx1
        rw [if_pos rfl]
        have hl := (k6 p c1 ht).len
        refine okN_if_ge (tgt := 36) dX5_digest_29 (by decide) (by omega) ?_
        refine ok_aload_n dX5_digest_36 rfl rfl ?_
        refine ok_get dX5_digest_37 fl_X5_13 (by assumption) (by rfl) ?_
        refine ok_iload_n dX5_digest_40 rfl ?_
        first | refine okN_iald dX5_digest_41 (by assumption) (by omega) (by decide) ?_ | refine okF_iald dX5_digest_41 (by assumption) (by omega) (by omega) ?_ | refine okN_kald dX5_digest_41 (by assumption) (by omega) (by decide) ?_
        rw [f1 p c1, if_pos ht]
        refine ok_i2l dX5_digest_42 ?_
        rw [nI_l (by omega)]
        refine ok_ladd dX5_digest_43 ?_
        refine ok_lstore_n dX5_digest_44 (st2_5_1 rfl) (Nat.le_of_ble_eq_true rfl) ?_
        refine ok_iconst (v := nI 0) dX5_digest_45 (by decide) ?_
        refine ok_istore dX5_digest_46 (st_5_4 rfl) (Nat.le_of_ble_eq_true rfl) ?_
        refine l_X5_digest2 I c1 ht (fun z => ?_) (S.2.1 p).length 0 (by omega)
        refine okN_inc dX5_digest_85 rfl (st_5_3 rfl) (Nat.le_of_ble_eq_true rfl) ?_
        refine ok_goto (tgt := 12) dX5_digest_88 (by decide) ?_
        exact nx1 _
      | false =>
        rw [if_neg (by rw [ht]; decide)] at nx1
        rw [if_neg (by decide)]
        refine ok_if_ge (tgt := 36) dX5_digest_29 (by decide) (fun c2 => ?_) (fun c2 => ?_)
        · exact absurd c2 m9_neg
        · refine ok_iconst (v := -1) dX5_digest_32 (by decide) ?_
          refine ok_goto (tgt := 42) dX5_digest_33 (by decide) ?_
          refine ok_i2l dX5_digest_42 ?_
          rw [show (-1 : Int32).toInt64 = -1 by decide]
          refine ok_ladd dX5_digest_43 ?_
          refine ok_lstore_n dX5_digest_44 (st2_5_1 rfl) (Nat.le_of_ble_eq_true rfl) ?_
          refine ok_iconst (v := nI 0) dX5_digest_45 (by decide) ?_
          refine ok_istore dX5_digest_46 (st_5_4 rfl) (Nat.le_of_ble_eq_true rfl) ?_
          refine ok_iload dX5_digest_48 rfl ?_
          refine ok_aload_n dX5_digest_50 rfl rfl ?_
          refine ok_get dX5_digest_51 fl_X5_13 (by assumption) (by rfl) ?_
          refine ok_iload_n dX5_digest_54 rfl ?_
          first | refine okN_iald dX5_digest_55 (by assumption) (by omega) (by decide) ?_ | refine okF_iald dX5_digest_55 (by assumption) (by omega) (by omega) ?_ | refine okN_kald dX5_digest_55 (by assumption) (by omega) (by decide) ?_
          rw [f1 p c1, if_neg (by rw [ht]; decide)]
          refine ok_icmp_ge (tgt := 85) dX5_digest_56 (by decide) (fun c3 => ?_) (fun c3 => ?_)
          · refine okN_inc dX5_digest_85 rfl (st_5_3 rfl) (Nat.le_of_ble_eq_true rfl) ?_
            refine ok_goto (tgt := 12) dX5_digest_88 (by decide) ?_
            rw [Int64.sub_eq_add_neg] at nx1
            exact nx1 _
          · exact absurd (by decide) c3
theorem p_X5_digest (I : IM h S) (k : Q (some (.long (sp_digest S))) h) : Ok g MX5_digest (m_J g MX5_digest Q) 0 [some (.ref 46), none, none, none, none] [] h 0 0 := by
  obtain ⟨sz, li, lz, kd, I⟩ := I
  have e0 := I.1
  have hr := I.2.2.2.2.2.2.2
  refine ok_ldc2 dX5_digest_0 kl_X5_167 ?_
  refine ok_aload_n dX5_digest_3 rfl rfl ?_
  refine ok_get dX5_digest_4 fl_X5_91 (by assumption) (by rfl) ?_
  refine ok_i2l dX5_digest_7 ?_
  rw [nI_l (by omega)]
  refine ok_ladd dX5_digest_8 ?_
  refine ok_lstore_n dX5_digest_9 (st2_5_1 rfl) (Nat.le_of_ble_eq_true rfl) ?_
  refine ok_iconst (v := nI 0) dX5_digest_10 (by decide) ?_
  refine ok_istore_n dX5_digest_11 (st_5_3 rfl) (Nat.le_of_ble_eq_true rfl) ?_
  exact l_X5_digest I k 12 0 _ (by omega)
end MSIMPLE
