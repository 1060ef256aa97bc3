/-! ===== the second program's steps, rounds ===== -/
def StA (h : mH) (s : Nat) : Prop := Af h 54 385 (NN s) (nx s) ∧ Af h 55 385 (NN s) (c_co s) ∧ Af h 56 385 (NN s) (c_ta s) ∧ Af h 57 385 (NN s) (c_be s) ∧ Af h 58 385 (NN s) (c_le s)
theorem StA.at {h h' : mH} {A : List Nat} {s : Nat} (r : StA h s) (x : hx A h h') (n : ∀ a, 54 ≤ a → a ≤ 58 → a ∉ A) : StA h' s :=
  ⟨r.1.at x (n _ (by decide) (by decide)), r.2.1.at x (n _ (by decide) (by decide)), r.2.2.1.at x (n _ (by decide) (by decide)), r.2.2.2.1.at x (n _ (by decide) (by decide)), r.2.2.2.2.at x (n _ (by decide) (by decide))⟩
theorem MI.setW {h h' : mH} {S : ST} {sz sz' lz : Nat} {li kd : Int32} (I : MI h S sz li lz kd) (x : hx [46, 51, 54, 55, 56, 57, 58] h h') (e : hc h' 46 = some (mdo S.2.2.2.1 S.2.2.2.2.2 S.2.2.1 sz' li lz kd)) (c : cI h' 51 20) (c5 : ∀ a, 54 ≤ a → a ≤ 58 → cI h' a 385) : MI h' S sz' li lz kd := by
  obtain ⟨e0, k1, k2, k3, k4, ⟨r1, r2, r3, r4, r5, r6⟩, k6, k7⟩ := I
  exact ⟨e, k1.at x (by decide), k2.at x (by decide), k3.at x (by decide), k4.at x (by decide) (by decide), ⟨r1.at x (by decide), c, c5, r4.at x (by decide), fun a l1 l2 => (r5 a l1 l2).at x (by simp <;> omega), r6.at x (by decide)⟩, k6, k7⟩
theorem c_co_eq {s : Nat} (hs : s < 76) : c_co s = gt (coS s (NN s)) := by
  obtain ⟨p, R, T, -, -, -, e⟩ := ch_parts hs
  funext k
  unfold c_co
  rw [e]
theorem it_inv {s k : Nat} (hs : s < 76) (hk : k < NN s) : ∀ j, c_be s (it s j k) = c_be s k ∧ c_le s (it s j k) = c_le s k ∧ c_ta s (it s j k) = c_ta s k - j
  | 0 => ⟨rfl, rfl, rfl⟩
  | j + 1 => by
    obtain ⟨a1, a2, a3⟩ := it_inv hs hk j
    have c := ch_k hs (it_lt hs hk j)
    refine ⟨?_, ?_, ?_⟩
    · show c_be s (nx s (it s j k)) = _
      rw [c.2.2.2.1, a1]
    · show c_le s (nx s (it s j k)) = _
      rw [c.2.2.2.2.1, a2]
    · show c_ta s (nx s (it s j k)) = _
      rw [c.2.2.1, a3]
      omega
theorem it_0 {s k : Nat} (hs : s < 76) (hk : k < NN s) : cyF s (it s (NN s) k) (NN s + 1) (it s (NN s) k) (it s (NN s) k) 0 = some (c_be s k, c_le s k) := by
  obtain ⟨a1, a2, a3⟩ := it_inv hs hk (NN s)
  have c := ch_k hs hk
  have c2 := (ch_k hs (it_lt hs hk (NN s))).1 (by rw [a3]; have := c.2.2.2.2.2.1; omega)
  rw [a1, a2] at c2
  exact c2.1
section MSTEPS
variable {g : mG} {h : mH} {Q : Option Value → mH → Prop} {S : ST} {sz lz : Nat} {li kd : Int32} {fi : Nat} {wk : Int64} {ru s : Nat}
theorem l_X5_isRound {q : Nat} (hs : s < 76) (hq : q < NN s) (e0 : hc h 46 = some (mdo fi wk ru sz li lz kd)) (s54 : Af h 54 385 (NN s) (nx s)) (s57 : Af h 57 385 (NN s) (c_be s)) :
    ∀ (d i a : Nat), i + d = c_be s q → a < NN s → Q (some (.int (nI (if irF s q d a = true then 1 else 0)))) h → Ok g MX5_isRound (m_J g MX5_isRound Q) 9 [some (.ref 46), some (.int (nI q)), some (.int (nI a)), some (.int (nI i))] [] h 0 0 := by
  have hN := NN_lt hs
  have hb := (ch_k hs hq).2.2.2.2.2.1
  intro d
  induction d with
  | zero =>
    intro i a hi ha k
    refine ok_iload_n dX5_isRound_9 rfl ?_
    refine ok_aload_n dX5_isRound_10 rfl rfl ?_
    refine ok_get dX5_isRound_11 fl_X5_44 (by assumption) (by rfl) ?_
    refine ok_iload_n dX5_isRound_14 rfl ?_
    first | refine okN_iald dX5_isRound_15 (by assumption) (by omega) (by decide) ?_ | refine okF_iald dX5_isRound_15 (by assumption) (by omega) (by omega) ?_ | refine okN_kald dX5_isRound_15 (by assumption) (by omega) (by decide) ?_
    refine okN_icmp_ge (tgt := 39) dX5_isRound_16 (by decide) (by omega) (by omega) (fun c1 => ?_) (fun c1 => ?_)
    · refine ok_iconst (v := nI 0) dX5_isRound_39 (by decide) ?_
      refine ok_iret dX5_isRound_40 rfl rfl ⟨Nat.le_of_ble_eq_true rfl, Nat.le_of_ble_eq_true rfl⟩ ?_
      exact k
    · exact absurd c1 (by omega)
  | succ d ih =>
    intro i a hi ha k
    unfold irF at k
    refine ok_iload_n dX5_isRound_9 rfl ?_
    refine ok_aload_n dX5_isRound_10 rfl rfl ?_
    refine ok_get dX5_isRound_11 fl_X5_44 (by assumption) (by rfl) ?_
    refine ok_iload_n dX5_isRound_14 rfl ?_
    first | refine okN_iald dX5_isRound_15 (by assumption) (by omega) (by decide) ?_ | refine okF_iald dX5_isRound_15 (by assumption) (by omega) (by omega) ?_ | refine okN_kald dX5_isRound_15 (by assumption) (by omega) (by decide) ?_
    refine okN_icmp_ge (tgt := 39) dX5_isRound_16 (by decide) (by omega) (by omega) (fun c1 => ?_) (fun c1 => ?_)
    · exact absurd c1 (by omega)
    · refine ok_iload_n dX5_isRound_19 rfl ?_
      refine ok_iload_n dX5_isRound_20 rfl ?_
      refine okN_icmp_ne (tgt := 26) dX5_isRound_21 (by decide) (by omega) (by omega) (fun c2 => ?_) (fun c2 => ?_)
      · rw [if_neg c2] at k
        refine ok_aload_n dX5_isRound_26 rfl rfl ?_
        refine ok_get dX5_isRound_27 fl_X5_35 (by assumption) (by rfl) ?_
        refine ok_iload_n dX5_isRound_30 rfl ?_
        first | refine okN_iald dX5_isRound_31 (by assumption) (by omega) (by decide) ?_ | refine okF_iald dX5_isRound_31 (by assumption) (by omega) (by omega) ?_ | refine okN_kald dX5_isRound_31 (by assumption) (by omega) (by decide) ?_
        refine ok_istore_n dX5_isRound_32 (st_4_2 rfl) (Nat.le_of_ble_eq_true rfl) ?_
        refine okN_inc dX5_isRound_33 rfl (st_4_3 rfl) (Nat.le_of_ble_eq_true rfl) ?_
        refine ok_goto (tgt := 9) dX5_isRound_36 (by decide) ?_
        exact ih (i + 1) _ (by omega) (ch_k hs ha).2.2.2.2.2.2.2.2.2.2 k
      · rw [if_pos c2, if_pos rfl] at k
        refine ok_iconst (v := nI 1) dX5_isRound_24 (by decide) ?_
        refine ok_iret dX5_isRound_25 rfl rfl ⟨Nat.le_of_ble_eq_true rfl, Nat.le_of_ble_eq_true rfl⟩ ?_
        exact k
theorem c_X5_isRound {q : Nat} (hs : s < 76) (hq : q < NN s) (e0 : hc h 46 = some (mdo fi wk ru sz li lz kd)) (s54 : Af h 54 385 (NN s) (nx s)) (s57 : Af h 57 385 (NN s) (c_be s)) (s58 : Af h 58 385 (NN s) (c_le s)) (k : Q (some (.int (nI (if c_ta s q = 0 then 1 else 0)))) h) : Ok g MX5_isRound (m_J g MX5_isRound Q) 0 [some (.ref 46), some (.int (nI q)), none, none] [] h 0 0 := by
  have c := ch_k hs hq
  have hN := NN_lt hs
  refine ok_aload_n dX5_isRound_0 rfl rfl ?_
  refine ok_get dX5_isRound_1 fl_X5_47 (by assumption) (by rfl) ?_
  refine ok_iload_n dX5_isRound_4 rfl ?_
  first | refine okN_iald dX5_isRound_5 (by assumption) (by omega) (by decide) ?_ | refine okF_iald dX5_isRound_5 (by assumption) (by omega) (by omega) ?_ | refine okN_kald dX5_isRound_5 (by assumption) (by omega) (by decide) ?_
  refine ok_istore_n dX5_isRound_6 (st_4_2 rfl) (Nat.le_of_ble_eq_true rfl) ?_
  refine ok_iconst (v := nI 0) dX5_isRound_7 (by decide) ?_
  refine ok_istore_n dX5_isRound_8 (st_4_3 rfl) (Nat.le_of_ble_eq_true rfl) ?_
  refine l_X5_isRound hs hq e0 s54 s57 (c_be s q) 0 (c_le s q) (by omega) c.2.2.2.2.2.2.2.2.2.1 ?_
  rw [c.2.1]
  have e : (if (c_ta s q == 0) = true then 1 else 0) = (if c_ta s q = 0 then 1 else 0) := by
    by_cases z : c_ta s q = 0
    · rw [if_pos z, if_pos (by rw [z]; rfl)]
    · rw [if_neg z, if_neg (by simpa using z)]
  rw [e]
  exact k
theorem l_X5_ss1 {n N : Nat} (hN : N < 386) (k : ∀ h' z, hx [55] h h' → hc h' 46 = some (mdo fi wk ru sz li N kd) → Af h' 55 385 N (gt 0) → Ok g MX5_setSteps (m_J g MX5_setSteps Q) 28 [some (.ref 46), some (.int (nI n)), z, none, none, none, none] [] h' 0 0) :
    ∀ (d j : Nat) (h1 : mH) (F : Nat → Nat), j + d = N → hx [55] h h1 → hc h1 46 = some (mdo fi wk ru sz li N kd) → hc h1 55 = some (aI 385 F) → (∀ i, i < j → F i = 0) → Ok g MX5_setSteps (m_J g MX5_setSteps Q) 7 [some (.ref 46), some (.int (nI n)), some (.int (nI j)), none, none, none, none] [] h1 0 0 := by
  intro d
  induction d with
  | zero =>
    intro j h1 F hj x1 e0 e55 f
    have ej : j = N := by omega
    subst ej
    refine ok_iload_n dX5_setSteps_7 rfl ?_
    refine ok_aload_n dX5_setSteps_8 rfl rfl ?_
    refine ok_get dX5_setSteps_9 fl_X5_104 (by assumption) (by rfl) ?_
    refine okN_icmp_ge (tgt := 28) dX5_setSteps_12 (by decide) (by omega) (by omega) (fun c1 => ?_) (fun c1 => ?_)
    · exact k h1 _ x1 e0 ⟨by omega, F, e55, fun i hi => by rw [f i hi, gt_0]⟩
    · exact absurd c1 (by omega)
  | succ d ih =>
    intro j h1 F hj x1 e0 e55 f
    refine ok_iload_n dX5_setSteps_7 rfl ?_
    refine ok_aload_n dX5_setSteps_8 rfl rfl ?_
    refine ok_get dX5_setSteps_9 fl_X5_104 (by assumption) (by rfl) ?_
    refine okN_icmp_ge (tgt := 28) dX5_setSteps_12 (by decide) (by omega) (by omega) (fun c1 => ?_) (fun c1 => ?_)
    · exact absurd c1 (by omega)
    · refine ok_aload_n dX5_setSteps_15 rfl rfl ?_
      refine ok_get dX5_setSteps_16 fl_X5_38 (by assumption) (by rfl) ?_
      refine ok_iload_n dX5_setSteps_19 rfl ?_
      refine ok_iconst (v := nI 0) dX5_setSteps_20 (by decide) ?_
      first | refine okN_iast dX5_setSteps_21 (by assumption) (by omega) (by decide) (fun h2 hx2 he2 => ?_) | refine okC_iast dX5_setSteps_21 (by assumption) (by omega) (by omega) (by omega) (fun h2 hx2 he2 => ?_) | refine okF_iast dX5_setSteps_21 (by assumption) (by omega) (by omega) (fun h2 hx2 he2 => ?_) | refine okN_kast dX5_setSteps_21 (by assumption) (by omega) (by decide) (fun h2 hx2 he2 => ?_)
      refine okN_inc dX5_setSteps_22 rfl (st_7_2 rfl) (Nat.le_of_ble_eq_true rfl) ?_
      refine ok_goto (tgt := 7) dX5_setSteps_25 (by decide) ?_
      refine ih (j + 1) h2 _ (by omega) (x1.tr' hx2) (hx2.at (by decide) e0) he2 (fun i hi => ?_)
      by_cases c : i = j
      · rw [c, up_eq]
      · rw [up_ne c, f i (by omega)]
theorem l_X5_ss2 {n : Nat} (hs : s < 76) (d1 : s / 19 = ru) (d2 : s % 19 = n) (hn : n < 19) (hru : ru < 4)
    (k : ∀ h' sz' z, hx [46, 51, 54, 55] h h' → hc h' 46 = some (mdo fi wk ru sz' li (NN s) kd) → cI h' 51 20 → Af h' 54 385 (NN s) (nx s) → Af h' 55 385 (NN s) (c_co s) → Ok g MX5_setSteps (m_J g MX5_setSteps Q) 78 [some (.ref 46), some (.int (nI n)), z, none, none, none, none] [] h' 0 0) :
    ∀ (d j : Nat) (h1 : mH) (sz1 : Nat) (F : Nat → Nat), j + d = NN s → hx [46, 51, 54, 55] h h1 → hc h1 46 = some (mdo fi wk ru sz1 li (NN s) kd) → cI h1 51 20 → LSt h1 n → hc h1 54 = some (aI 385 F) → (∀ i, i < j → F i = nx s i) → Af h1 55 385 (NN s) (gt (coS s j)) → Ok g MX5_setSteps (m_J g MX5_setSteps Q) 30 [some (.ref 46), some (.int (nI n)), some (.int (nI j)), none, none, none, none] [] h1 0 0 := by
  have hN := NN_lt hs
  have enn : NN s = cap n n := by unfold NN; rw [d2]
  intro d
  induction d with
  | zero =>
    intro j h1 sz1 F hj x1 e0 c51 L e54 f a55
    have ej : j = NN s := by omega
    subst ej
    refine ok_iload_n dX5_setSteps_30 rfl ?_
    refine ok_aload_n dX5_setSteps_31 rfl rfl ?_
    refine ok_get dX5_setSteps_32 fl_X5_104 (by assumption) (by rfl) ?_
    refine okN_icmp_ge (tgt := 78) dX5_setSteps_35 (by decide) (by omega) (by omega) (fun c1 => ?_) (fun c1 => ?_)
    · exact k h1 _ _ x1 e0 c51 ⟨by omega, F, e54, f⟩ (by rw [c_co_eq hs]; exact a55)
    · exact absurd c1 (by omega)
  | succ d ih =>
    intro j h1 sz1 F hj x1 e0 c51 L e54 f a55
    obtain ⟨F52, F53, e52, e53, hL⟩ := id L
    obtain ⟨b1, b2, b3⟩ := chk_S hs (k := j) (by omega)
    rw [d1, d2] at b1 b2
    have cl := coS_le s j (by omega) (nx s j)
    have ow := wr_ok (n := n) (k := j) hn (by omega)
    refine ok_iload_n dX5_setSteps_30 rfl ?_
    refine ok_aload_n dX5_setSteps_31 rfl rfl ?_
    refine ok_get dX5_setSteps_32 fl_X5_104 (by assumption) (by rfl) ?_
    refine okN_icmp_ge (tgt := 78) dX5_setSteps_35 (by decide) (by omega) (by omega) (fun c1 => ?_) (fun c1 => ?_)
    · exact absurd c1 (by omega)
    · refine ok_aload_n dX5_setSteps_38 rfl rfl ?_
      refine ok_iload_n dX5_setSteps_39 rfl ?_
      refine call_X5_loadListed dX5_setSteps_40 lk_X5_128 ⟨Nat.le_of_ble_eq_true rfl, Nat.le_of_ble_eq_true rfl, Nat.le_of_ble_eq_true rfl⟩ (by assumption) (Nat.le_of_ble_eq_true rfl) ?_
      refine c_X5_loadListed e0 e52 e53 c51 hL hn (by omega) (fun h2 x2 e02 R2 => ?_)
      refine ok_aload_n dX5_setSteps_43 rfl rfl ?_
      refine call_X5_goOn dX5_setSteps_44 lk_X5_134 ⟨Nat.le_of_ble_eq_true rfl, Nat.le_of_ble_eq_true rfl, Nat.le_of_ble_eq_true rfl⟩ (by assumption) (Nat.le_of_ble_eq_true rfl) ?_
      refine c_X5_goOn e02 R2 ow hru (fun h3 x3 e03 R3 => ?_)
      have x13 : hx [46, 51] h1 h3 := x2.tr' x3
      have e543 := x13.at (by decide) e54
      have a553 := a55.at x13 (by decide)
      have L3 := L.at x13 (by decide) (by decide)
      refine ok_aload_n dX5_setSteps_47 rfl rfl ?_
      refine ok_get dX5_setSteps_48 fl_X5_35 (by assumption) (by rfl) ?_
      refine ok_iload_n dX5_setSteps_51 rfl ?_
      refine ok_aload_n dX5_setSteps_52 rfl rfl ?_
      refine call_X5_rankRow dX5_setSteps_53 lk_X5_121 ⟨Nat.le_of_ble_eq_true rfl, Nat.le_of_ble_eq_true rfl, Nat.le_of_ble_eq_true rfl⟩ (by assumption) (Nat.le_of_ble_eq_true rfl) ?_
      refine c_X5_rankRow (okl_stp ow) hn b2 (by rw [← enn]; exact e03) R3 L3 ?_
      rw [b1]
      dsimp only [m_push]
      first | refine okN_iast dX5_setSteps_56 (by assumption) (by omega) (by decide) (fun h4 hx4 he4 => ?_) | refine okC_iast dX5_setSteps_56 (by assumption) (by omega) (by omega) (by omega) (fun h4 hx4 he4 => ?_) | refine okF_iast dX5_setSteps_56 (by assumption) (by omega) (by omega) (fun h4 hx4 he4 => ?_) | refine okN_kast dX5_setSteps_56 (by assumption) (by omega) (by decide) (fun h4 hx4 he4 => ?_)
      have e04 := hx4.at (by decide) e03
      have a554 := a553.at hx4 (by decide)
      refine ok_aload_n dX5_setSteps_57 rfl rfl ?_
      refine ok_get dX5_setSteps_58 fl_X5_38 (by assumption) (by rfl) ?_
      refine ok_aload_n dX5_setSteps_61 rfl rfl ?_
      refine ok_get dX5_setSteps_62 fl_X5_35 (by assumption) (by rfl) ?_
      refine ok_iload_n dX5_setSteps_65 rfl ?_
      first | refine okN_iald dX5_setSteps_66 (by assumption) (by omega) (by decide) ?_ | refine okF_iald dX5_setSteps_66 (by assumption) (by omega) (by omega) ?_ | refine okN_kald dX5_setSteps_66 (by assumption) (by omega) (by decide) ?_
      rw [up_eq]
      refine ok_dup2 dX5_setSteps_67 rfl rfl ?_
      first | refine okN_iald dX5_setSteps_68 (by assumption) (by omega) (by decide) ?_ | refine okF_iald dX5_setSteps_68 (by assumption) (by omega) (by omega) ?_ | refine okN_kald dX5_setSteps_68 (by assumption) (by omega) (by decide) ?_
      refine ok_iconst (v := nI 1) dX5_setSteps_69 (by decide) ?_
      first | refine okN_iadd dX5_setSteps_70 ?_ | refine ok_iadd dX5_setSteps_70 ?_
      first | refine okN_iast dX5_setSteps_71 (by assumption) (by omega) (by decide) (fun h5 hx5 he5 => ?_) | refine okC_iast dX5_setSteps_71 (by assumption) (by omega) (by omega) (by omega) (fun h5 hx5 he5 => ?_) | refine okF_iast dX5_setSteps_71 (by assumption) (by omega) (by omega) (fun h5 hx5 he5 => ?_) | refine okN_kast dX5_setSteps_71 (by assumption) (by omega) (by decide) (fun h5 hx5 he5 => ?_)
      refine okN_inc dX5_setSteps_72 rfl (st_7_2 rfl) (Nat.le_of_ble_eq_true rfl) ?_
      refine ok_goto (tgt := 30) dX5_setSteps_75 (by decide) ?_
      refine ih (j + 1) h5 _ _ (by omega) (((x1.tr x13 (C := [46, 51, 54, 55]) (by simp) (by simp)).tr hx4 (C := [46, 51, 54, 55]) (by simp) (by simp)).tr hx5 (by simp) (by simp)) (hx5.at (by decide) e04) ?_ ((L3.at hx4 (by decide) (by decide)).at hx5 (by decide) (by decide)) (hx5.at (by decide) he4) (fun i hi => ?_) he5
      · obtain ⟨F3, e513, -⟩ := R3
        exact ⟨F3, hx5.at (by decide) (hx4.at (by decide) e513)⟩
      · by_cases c : i = j
        · rw [c, up_eq]
        · rw [up_ne c, f i (by omega)]
theorem l_X5_ss3a {n q : Nat} {z5 z6 : Option Value} (hs : s < 76) (hq : q < NN s) (e0 : hc h 46 = some (mdo fi wk ru sz li (NN s) kd)) (s54 : Af h 54 385 (NN s) (nx s)) (k : ∀ z, Ok g MX5_setSteps (m_J g MX5_setSteps Q) 115 [some (.ref 46), some (.int (nI n)), some (.int (nI q)), some (.int (nI (it s (NN s) q))), z, z5, z6] [] h 0 0) :
    ∀ (d i : Nat), i + d = NN s → Ok g MX5_setSteps (m_J g MX5_setSteps Q) 93 [some (.ref 46), some (.int (nI n)), some (.int (nI q)), some (.int (nI (it s i q))), some (.int (nI i)), z5, z6] [] h 0 0 := by
  have hN := NN_lt hs
  intro d
  induction d with
  | zero =>
    intro i hi
    have ei : i = NN s := by omega
    subst ei
    refine ok_iload dX5_setSteps_93 rfl ?_
    refine ok_aload_n dX5_setSteps_95 rfl rfl ?_
    refine ok_get dX5_setSteps_96 fl_X5_104 (by assumption) (by rfl) ?_
    refine okN_icmp_ge (tgt := 115) dX5_setSteps_99 (by decide) (by omega) (by omega) (fun c1 => ?_) (fun c1 => ?_)
    · exact k _
    · exact absurd c1 (by omega)
  | succ d ih =>
    intro i hi
    have l1 := it_lt hs hq i
    refine ok_iload dX5_setSteps_93 rfl ?_
    refine ok_aload_n dX5_setSteps_95 rfl rfl ?_
    refine ok_get dX5_setSteps_96 fl_X5_104 (by assumption) (by rfl) ?_
    refine okN_icmp_ge (tgt := 115) dX5_setSteps_99 (by decide) (by omega) (by omega) (fun c1 => ?_) (fun c1 => ?_)
    · exact absurd c1 (by omega)
    · refine ok_aload_n dX5_setSteps_102 rfl rfl ?_
      refine ok_get dX5_setSteps_103 fl_X5_35 (by assumption) (by rfl) ?_
      refine ok_iload_n dX5_setSteps_106 rfl ?_
      first | refine okN_iald dX5_setSteps_107 (by assumption) (by omega) (by decide) ?_ | refine okF_iald dX5_setSteps_107 (by assumption) (by omega) (by omega) ?_ | refine okN_kald dX5_setSteps_107 (by assumption) (by omega) (by decide) ?_
      refine ok_istore_n dX5_setSteps_108 (st_7_3 rfl) (Nat.le_of_ble_eq_true rfl) ?_
      refine okN_inc dX5_setSteps_109 rfl (st_7_4 rfl) (Nat.le_of_ble_eq_true rfl) ?_
      refine ok_goto (tgt := 93) dX5_setSteps_112 (by decide) ?_
      exact ih (i + 1) (by omega)
theorem l_X5_ss3b {n q R b' l' : Nat} (hs : s < 76) (hR : R < NN s) (e0 : hc h 46 = some (mdo fi wk ru sz li (NN s) kd)) (s54 : Af h 54 385 (NN s) (nx s)) (k : ∀ z z', Ok g MX5_setSteps (m_J g MX5_setSteps Q) 162 [some (.ref 46), some (.int (nI n)), some (.int (nI q)), z, z', some (.int (nI l')), some (.int (nI b'))] [] h 0 0) :
    ∀ (f a le b : Nat), cyF s R f a le b = some (b', l') → a < NN s → le < NN s → b + f < 1000 → Ok g MX5_setSteps (m_J g MX5_setSteps Q) 124 [some (.ref 46), some (.int (nI n)), some (.int (nI q)), some (.int (nI a)), some (.int (nI R)), some (.int (nI le)), some (.int (nI b))] [] h 0 0 := by
  have hN := NN_lt hs
  intro f
  induction f with
  | zero => intro a le b hc; cases hc
  | succ f ih =>
    intro a le b hc ha hle hb
    have na := (ch_k hs ha).2.2.2.2.2.2.2.2.2.2
    unfold cyF at hc
    have body : cyF s R f (nx s a) (if nx s a < le then nx s a else le) (b + 1) = some (b', l') → Ok g MX5_setSteps (m_J g MX5_setSteps Q) 135 [some (.ref 46), some (.int (nI n)), some (.int (nI q)), some (.int (nI a)), some (.int (nI R)), some (.int (nI le)), some (.int (nI b))] [] h 0 0 := by
      intro hc'
      refine ok_aload_n dX5_setSteps_135 rfl rfl ?_
      refine ok_get dX5_setSteps_136 fl_X5_35 (by assumption) (by rfl) ?_
      refine ok_iload_n dX5_setSteps_139 rfl ?_
      first | refine okN_iald dX5_setSteps_140 (by assumption) (by omega) (by decide) ?_ | refine okF_iald dX5_setSteps_140 (by assumption) (by omega) (by omega) ?_ | refine okN_kald dX5_setSteps_140 (by assumption) (by omega) (by decide) ?_
      refine ok_istore_n dX5_setSteps_141 (st_7_3 rfl) (Nat.le_of_ble_eq_true rfl) ?_
      refine ok_iload_n dX5_setSteps_142 rfl ?_
      refine ok_iload dX5_setSteps_143 rfl ?_
      refine okN_icmp_ge (tgt := 152) dX5_setSteps_145 (by decide) (by omega) (by omega) (fun c3 => ?_) (fun c3 => ?_)
      · rw [if_neg (by omega)] at hc'
        refine ok_iload dX5_setSteps_152 rfl ?_
        refine ok_istore dX5_setSteps_154 (st_7_5 rfl) (Nat.le_of_ble_eq_true rfl) ?_
        refine okN_inc dX5_setSteps_156 rfl (st_7_6 rfl) (Nat.le_of_ble_eq_true rfl) ?_
        refine ok_goto (tgt := 124) dX5_setSteps_159 (by decide) ?_
        exact ih _ _ _ hc' na hle (by omega)
      · rw [if_pos c3] at hc'
        refine ok_iload_n dX5_setSteps_148 rfl ?_
        refine ok_goto (tgt := 154) dX5_setSteps_149 (by decide) ?_
        refine ok_istore dX5_setSteps_154 (st_7_5 rfl) (Nat.le_of_ble_eq_true rfl) ?_
        refine okN_inc dX5_setSteps_156 rfl (st_7_6 rfl) (Nat.le_of_ble_eq_true rfl) ?_
        refine ok_goto (tgt := 124) dX5_setSteps_159 (by decide) ?_
        exact ih _ _ _ hc' na na (by omega)
    refine ok_iload dX5_setSteps_124 rfl ?_
    refine okN_if_eq (tgt := 135) dX5_setSteps_126 (by decide) (by omega) (fun c1 => ?_) (fun c1 => ?_)
    · rw [if_neg (by omega)] at hc
      exact body hc
    · refine ok_iload_n dX5_setSteps_129 rfl ?_
      refine ok_iload dX5_setSteps_130 rfl ?_
      refine okN_icmp_eq (tgt := 162) dX5_setSteps_132 (by decide) (by omega) (by omega) (fun c2 => ?_) (fun c2 => ?_)
      · rw [if_pos ⟨by omega, c2⟩] at hc
        cases hc
        exact k _ _
      · rw [if_neg (fun z => c2 z.2)] at hc
        exact body hc
theorem l_X5_ss3 {n : Nat} (hs : s < 76) (k : ∀ h' z2 z3 z4 z5 z6, hx [57, 58] h h' → hc h' 46 = some (mdo fi wk ru sz li (NN s) kd) → Af h' 54 385 (NN s) (nx s) → Af h' 57 385 (NN s) (c_be s) → Af h' 58 385 (NN s) (c_le s) → Ok g MX5_setSteps (m_J g MX5_setSteps Q) 184 [some (.ref 46), some (.int (nI n)), z2, z3, z4, z5, z6] [] h' 0 0) :
    ∀ (d j : Nat) (h1 : mH) (F G : Nat → Nat) (z3 z4 z5 z6 : Option Value), j + d = NN s → hx [57, 58] h h1 → hc h1 46 = some (mdo fi wk ru sz li (NN s) kd) → Af h1 54 385 (NN s) (nx s) → hc h1 57 = some (aI 385 F) → hc h1 58 = some (aI 385 G) → (∀ i, i < j → F i = c_be s i ∧ G i = c_le s i) → Ok g MX5_setSteps (m_J g MX5_setSteps Q) 80 [some (.ref 46), some (.int (nI n)), some (.int (nI j)), z3, z4, z5, z6] [] h1 0 0 := by
  have hN := NN_lt hs
  intro d
  induction d with
  | zero =>
    intro j h1 F G z3 z4 z5 z6 hj x1 e0 s54 e57 e58 f
    have ej : j = NN s := by omega
    subst ej
    refine ok_iload_n dX5_setSteps_80 rfl ?_
    refine ok_aload_n dX5_setSteps_81 rfl rfl ?_
    refine ok_get dX5_setSteps_82 fl_X5_104 (by assumption) (by rfl) ?_
    refine okN_icmp_ge (tgt := 184) dX5_setSteps_85 (by decide) (by omega) (by omega) (fun c1 => ?_) (fun c1 => ?_)
    · exact k h1 _ _ _ _ _ x1 e0 s54 ⟨by omega, F, e57, fun i hi => (f i hi).1⟩ ⟨by omega, G, e58, fun i hi => (f i hi).2⟩
    · exact absurd c1 (by omega)
  | succ d ih =>
    intro j h1 F G z3 z4 z5 z6 hj x1 e0 s54 e57 e58 f
    have hq : j < NN s := by omega
    have hR := it_lt hs hq (NN s)
    refine ok_iload_n dX5_setSteps_80 rfl ?_
    refine ok_aload_n dX5_setSteps_81 rfl rfl ?_
    refine ok_get dX5_setSteps_82 fl_X5_104 (by assumption) (by rfl) ?_
    refine okN_icmp_ge (tgt := 184) dX5_setSteps_85 (by decide) (by omega) (by omega) (fun c1 => ?_) (fun c1 => ?_)
    · exact absurd c1 (by omega)
    · refine ok_iload_n dX5_setSteps_88 rfl ?_
      refine ok_istore_n dX5_setSteps_89 (st_7_3 rfl) (Nat.le_of_ble_eq_true rfl) ?_
      refine ok_iconst (v := nI 0) dX5_setSteps_90 (by decide) ?_
      refine ok_istore dX5_setSteps_91 (st_7_4 rfl) (Nat.le_of_ble_eq_true rfl) ?_
      refine l_X5_ss3a hs hq e0 s54 (fun z => ?_) (NN s) 0 (by omega)
      refine ok_iload_n dX5_setSteps_115 rfl ?_
      refine ok_istore dX5_setSteps_116 (st_7_4 rfl) (Nat.le_of_ble_eq_true rfl) ?_
      refine ok_iload_n dX5_setSteps_118 rfl ?_
      refine ok_istore dX5_setSteps_119 (st_7_5 rfl) (Nat.le_of_ble_eq_true rfl) ?_
      refine ok_iconst (v := nI 0) dX5_setSteps_121 (by decide) ?_
      refine ok_istore dX5_setSteps_122 (st_7_6 rfl) (Nat.le_of_ble_eq_true rfl) ?_
      refine l_X5_ss3b hs hR e0 s54 (fun y y' => ?_) (NN s + 1) _ _ 0 (it_0 hs hq) hR hR (by omega)
      refine ok_aload_n dX5_setSteps_162 rfl rfl ?_
      refine ok_get dX5_setSteps_163 fl_X5_44 (by assumption) (by rfl) ?_
      refine ok_iload_n dX5_setSteps_166 rfl ?_
      refine ok_iload dX5_setSteps_167 rfl ?_
      first | refine okN_iast dX5_setSteps_169 (by assumption) (by omega) (by decide) (fun h2 hx2 he2 => ?_) | refine okC_iast dX5_setSteps_169 (by assumption) (by omega) (by omega) (by omega) (fun h2 hx2 he2 => ?_) | refine okF_iast dX5_setSteps_169 (by assumption) (by omega) (by omega) (fun h2 hx2 he2 => ?_) | refine okN_kast dX5_setSteps_169 (by assumption) (by omega) (by decide) (fun h2 hx2 he2 => ?_)
      have e02 := hx2.at (by decide) e0
      have e582 := hx2.at (by decide) e58
      refine ok_aload_n dX5_setSteps_170 rfl rfl ?_
      refine ok_get dX5_setSteps_171 fl_X5_47 (by assumption) (by rfl) ?_
      refine ok_iload_n dX5_setSteps_174 rfl ?_
      refine ok_iload dX5_setSteps_175 rfl ?_
      first | refine okN_iast dX5_setSteps_177 (by assumption) (by omega) (by decide) (fun h3 hx3 he3 => ?_) | refine okC_iast dX5_setSteps_177 (by assumption) (by omega) (by omega) (by omega) (fun h3 hx3 he3 => ?_) | refine okF_iast dX5_setSteps_177 (by assumption) (by omega) (by omega) (fun h3 hx3 he3 => ?_) | refine okN_kast dX5_setSteps_177 (by assumption) (by omega) (by decide) (fun h3 hx3 he3 => ?_)
      refine okN_inc dX5_setSteps_178 rfl (st_7_2 rfl) (Nat.le_of_ble_eq_true rfl) ?_
      refine ok_goto (tgt := 80) dX5_setSteps_181 (by decide) ?_
      refine ih (j + 1) h3 _ _ _ _ _ _ (by omega) ((x1.tr hx2 (C := [57, 58]) (by simp) (by simp)).tr hx3 (by simp) (by simp)) (hx3.at (by decide) e02) ((s54.at hx2 (by decide)).at hx3 (by decide)) (hx3.at (by decide) he2) he3 (fun i hi => ?_)
      by_cases c : i = j
      · rw [c, up_eq, up_eq]; exact ⟨rfl, rfl⟩
      · rw [up_ne c, up_ne c]; exact f i (by omega)
theorem l_X5_ss4a {n q : Nat} {z5 z6 : Option Value} (hs : s < 76) (hq : q < NN s) (e0 : hc h 46 = some (mdo fi wk ru sz li (NN s) kd)) (s54 : Af h 54 385 (NN s) (nx s)) (s57 : Af h 57 385 (NN s) (c_be s)) (s58 : Af h 58 385 (NN s) (c_le s)) (k : ∀ z, Ok g MX5_setSteps (m_J g MX5_setSteps Q) 223 [some (.ref 46), some (.int (nI n)), some (.int (nI q)), some (.int (nI (c_ta s q))), z, z5, z6] [] h 0 0) :
    ∀ (d t : Nat), t + d = c_ta s q → Ok g MX5_setSteps (m_J g MX5_setSteps Q) 199 [some (.ref 46), some (.int (nI n)), some (.int (nI q)), some (.int (nI t)), some (.int (nI (it s t q))), z5, z6] [] h 0 0 := by
  have hN := NN_lt hs
  intro d
  induction d with
  | zero =>
    intro t ht
    have l1 := it_lt hs hq t
    have ta := (it_inv hs hq t).2.2
    refine ok_aload_n dX5_setSteps_199 rfl rfl ?_
    refine ok_iload dX5_setSteps_200 rfl ?_
    refine call_X5_isRound dX5_setSteps_202 lk_X5_137 ⟨Nat.le_of_ble_eq_true rfl, Nat.le_of_ble_eq_true rfl, Nat.le_of_ble_eq_true rfl⟩ (by assumption) (Nat.le_of_ble_eq_true rfl) ?_
    refine c_X5_isRound hs l1 e0 s54 s57 s58 ?_
    rw [if_pos (by omega)]
    refine okN_if_ne (tgt := 223) dX5_setSteps_205 (by decide) (by omega) (fun c1 => ?_) (fun c1 => ?_)
    · rw [show c_ta s q = t by omega] at k
      exact k _
    · exact absurd c1 (by decide)
  | succ d ih =>
    intro t ht
    have l1 := it_lt hs hq t
    have ta := (it_inv hs hq t).2.2
    refine ok_aload_n dX5_setSteps_199 rfl rfl ?_
    refine ok_iload dX5_setSteps_200 rfl ?_
    refine call_X5_isRound dX5_setSteps_202 lk_X5_137 ⟨Nat.le_of_ble_eq_true rfl, Nat.le_of_ble_eq_true rfl, Nat.le_of_ble_eq_true rfl⟩ (by assumption) (Nat.le_of_ble_eq_true rfl) ?_
    refine c_X5_isRound hs l1 e0 s54 s57 s58 ?_
    rw [if_neg (by omega)]
    refine okN_if_ne (tgt := 223) dX5_setSteps_205 (by decide) (by omega) (fun c1 => ?_) (fun c1 => ?_)
    · exact absurd c1 (by decide)
    · refine ok_aload_n dX5_setSteps_208 rfl rfl ?_
      refine ok_get dX5_setSteps_209 fl_X5_35 (by assumption) (by rfl) ?_
      refine ok_iload dX5_setSteps_212 rfl ?_
      first | refine okN_iald dX5_setSteps_214 (by assumption) (by omega) (by decide) ?_ | refine okF_iald dX5_setSteps_214 (by assumption) (by omega) (by omega) ?_ | refine okN_kald dX5_setSteps_214 (by assumption) (by omega) (by decide) ?_
      refine ok_istore dX5_setSteps_215 (st_7_4 rfl) (Nat.le_of_ble_eq_true rfl) ?_
      refine okN_inc dX5_setSteps_217 rfl (st_7_3 rfl) (Nat.le_of_ble_eq_true rfl) ?_
      refine ok_goto (tgt := 199) dX5_setSteps_220 (by decide) ?_
      exact ih (t + 1) (by omega)
theorem l_X5_ss4 {n : Nat} (hs : s < 76) (k : ∀ h', hx [56] h h' → Af h' 56 385 (NN s) (c_ta s) → Q none h') :
    ∀ (d j : Nat) (h1 : mH) (F : Nat → Nat) (z3 z4 z5 z6 : Option Value), j + d = NN s → hx [56] h h1 → hc h1 46 = some (mdo fi wk ru sz li (NN s) kd) → Af h1 54 385 (NN s) (nx s) → Af h1 57 385 (NN s) (c_be s) → Af h1 58 385 (NN s) (c_le s) → hc h1 56 = some (aI 385 F) → (∀ i, i < j → F i = c_ta s i) → Ok g MX5_setSteps (m_J g MX5_setSteps Q) 186 [some (.ref 46), some (.int (nI n)), some (.int (nI j)), z3, z4, z5, z6] [] h1 0 0 := by
  have hN := NN_lt hs
  intro d
  induction d with
  | zero =>
    intro j h1 F z3 z4 z5 z6 hj x1 e0 s54 s57 s58 e56 f
    have ej : j = NN s := by omega
    subst ej
    refine ok_iload_n dX5_setSteps_186 rfl ?_
    refine ok_aload_n dX5_setSteps_187 rfl rfl ?_
    refine ok_get dX5_setSteps_188 fl_X5_104 (by assumption) (by rfl) ?_
    refine okN_icmp_ge (tgt := 236) dX5_setSteps_191 (by decide) (by omega) (by omega) (fun c1 => ?_) (fun c1 => ?_)
    · refine ok_vret dX5_setSteps_236 rfl ⟨Nat.le_of_ble_eq_true rfl, Nat.le_of_ble_eq_true rfl⟩ ?_
      exact k h1 x1 ⟨by omega, F, e56, f⟩
    · exact absurd c1 (by omega)
  | succ d ih =>
    intro j h1 F z3 z4 z5 z6 hj x1 e0 s54 s57 s58 e56 f
    have hq : j < NN s := by omega
    refine ok_iload_n dX5_setSteps_186 rfl ?_
    refine ok_aload_n dX5_setSteps_187 rfl rfl ?_
    refine ok_get dX5_setSteps_188 fl_X5_104 (by assumption) (by rfl) ?_
    refine okN_icmp_ge (tgt := 236) dX5_setSteps_191 (by decide) (by omega) (by omega) (fun c1 => ?_) (fun c1 => ?_)
    · exact absurd c1 (by omega)
    · refine ok_iconst (v := nI 0) dX5_setSteps_194 (by decide) ?_
      refine ok_istore_n dX5_setSteps_195 (st_7_3 rfl) (Nat.le_of_ble_eq_true rfl) ?_
      refine ok_iload_n dX5_setSteps_196 rfl ?_
      refine ok_istore dX5_setSteps_197 (st_7_4 rfl) (Nat.le_of_ble_eq_true rfl) ?_
      refine l_X5_ss4a hs hq e0 s54 s57 s58 (fun z => ?_) (c_ta s j) 0 (by omega)
      refine ok_aload_n dX5_setSteps_223 rfl rfl ?_
      refine ok_get dX5_setSteps_224 fl_X5_41 (by assumption) (by rfl) ?_
      refine ok_iload_n dX5_setSteps_227 rfl ?_
      refine ok_iload_n dX5_setSteps_228 rfl ?_
      first | refine okN_iast dX5_setSteps_229 (by assumption) (by omega) (by decide) (fun h2 hx2 he2 => ?_) | refine okC_iast dX5_setSteps_229 (by assumption) (by omega) (by omega) (by omega) (fun h2 hx2 he2 => ?_) | refine okF_iast dX5_setSteps_229 (by assumption) (by omega) (by omega) (fun h2 hx2 he2 => ?_) | refine okN_kast dX5_setSteps_229 (by assumption) (by omega) (by decide) (fun h2 hx2 he2 => ?_)
      refine okN_inc dX5_setSteps_230 rfl (st_7_2 rfl) (Nat.le_of_ble_eq_true rfl) ?_
      refine ok_goto (tgt := 186) dX5_setSteps_233 (by decide) ?_
      refine ih (j + 1) h2 _ _ _ _ _ (by omega) (x1.tr' hx2) (hx2.at (by decide) e0) (s54.at hx2 (by decide)) (s57.at hx2 (by decide)) (s58.at hx2 (by decide)) he2 (fun i hi => ?_)
      by_cases c : i = j
      · rw [c, up_eq]
      · rw [up_ne c, f i (by omega)]
theorem c_X5_setSteps {n : Nat} (I : MI h S sz li lz kd) (hn : n < 19) (k : ∀ h' sz', hx [46, 51, 52, 53, 54, 55, 56, 57, 58] h h' → MI h' S sz' (nI n) (NN (19 * S.2.2.1 + n)) kd → StA h' (19 * S.2.2.1 + n) → Q none h') : Ok g MX5_setSteps (m_J g MX5_setSteps Q) 0 [some (.ref 46), some (.int (nI n)), none, none, none, none, none] [] h 0 0 := by
  have e0 := I.1
  have hr := I.2.2.2.2.2.2.2
  generalize hs0 : 19 * S.2.2.1 + n = s at k
  have hs : s < 76 := by omega
  have d1 : s / 19 = S.2.2.1 := by omega
  have d2 : s % 19 = n := by omega
  have hN := NN_lt hs
  have enn : NN s = cap n n := by unfold NN; rw [d2]
  refine ok_aload_n dX5_setSteps_0 rfl rfl ?_
  refine ok_iload_n dX5_setSteps_1 rfl ?_
  refine call_X5_setList dX5_setSteps_2 lk_X5_114 ⟨Nat.le_of_ble_eq_true rfl, Nat.le_of_ble_eq_true rfl, Nat.le_of_ble_eq_true rfl⟩ (by assumption) (Nat.le_of_ble_eq_true rfl) ?_
  refine c_X5_setList I hn (fun h1 s1 x1 I1 => ?_)
  have L1 := (I1.lst hn).2
  rw [← enn] at I1
  have e01 := I1.1
  have cs := I1.2.2.2.2.2.1
  obtain ⟨F55, e55⟩ := cs.2.2.1 55 (by decide) (by decide)
  refine ok_iconst (v := nI 0) dX5_setSteps_5 (by decide) ?_
  refine ok_istore_n dX5_setSteps_6 (st_7_2 rfl) (Nat.le_of_ble_eq_true rfl) ?_
  refine l_X5_ss1 (h := h1) hN (fun h2 z x2 e02 a2 => ?_) (NN s) 0 h1 F55 (by omega) hx.rf e01 e55 (fun i hi => by omega)
  refine ok_iconst (v := nI 0) dX5_setSteps_28 (by decide) ?_
  refine ok_istore_n dX5_setSteps_29 (st_7_2 rfl) (Nat.le_of_ble_eq_true rfl) ?_
  obtain ⟨F54, e54⟩ := (cs.2.2.1 54 (by decide) (by decide)).at x2 (by decide)
  refine l_X5_ss2 (h := h2) hs d1 d2 hn hr (fun h3 s3 z3 x3 e03 c513 a543 a553 => ?_) (NN s) 0 h2 _ F54 (by omega) hx.rf e02 (cs.2.1.at x2 (by decide)) (L1.at x2 (by decide) (by decide)) e54 (fun i hi => by omega) a2
  obtain ⟨F57, e57⟩ := ((cs.2.2.1 57 (by decide) (by decide)).at x2 (by decide)).at x3 (by decide)
  obtain ⟨F58, e58⟩ := ((cs.2.2.1 58 (by decide) (by decide)).at x2 (by decide)).at x3 (by decide)
  refine ok_iconst (v := nI 0) dX5_setSteps_78 (by decide) ?_
  refine ok_istore_n dX5_setSteps_79 (st_7_2 rfl) (Nat.le_of_ble_eq_true rfl) ?_
  refine l_X5_ss3 (h := h3) hs (fun h4 y2 y3 y4 y5 y6 x4 e04 a544 a574 a584 => ?_) (NN s) 0 h3 F57 F58 _ _ _ _ (by omega) hx.rf e03 a543 e57 e58 (fun i hi => by omega)
  obtain ⟨F56, e56⟩ := (((cs.2.2.1 56 (by decide) (by decide)).at x2 (by decide)).at x3 (by decide)).at x4 (by decide)
  refine ok_iconst (v := nI 0) dX5_setSteps_184 (by decide) ?_
  refine ok_istore_n dX5_setSteps_185 (st_7_2 rfl) (Nat.le_of_ble_eq_true rfl) ?_
  refine l_X5_ss4 (h := h4) hs (fun h5 x5 a565 => ?_) (NN s) 0 h4 F56 _ _ _ _ (by omega) hx.rf e04 a544 a574 a584 e56 (fun i hi => by omega)
  have x15 : hx [46, 51, 54, 55, 56, 57, 58] h1 h5 := ((x2.tr x3 (C := [46, 51, 54, 55, 56, 57, 58]) (by simp) (by simp)).tr x4 (C := [46, 51, 54, 55, 56, 57, 58]) (by simp) (by simp)).tr x5 (by simp) (by simp)
  have st5 : StA h5 s := ⟨a544.at x5 (by decide), (a553.at x4 (by decide)).at x5 (by decide), a565, a574.at x5 (by decide), a584.at x5 (by decide)⟩
  refine k h5 s3 (x1.tr x15 (by simp) (by simp)) (I1.setW x15 (x5.at (by decide) e04) ((c513.at x4 (by decide)).at x5 (by decide)) (fun a l1 l2 => ?_)) st5
  rcases (show a = 54 ∨ a = 55 ∨ a = 56 ∨ a = 57 ∨ a = 58 by omega) with rfl | rfl | rfl | rfl | rfl
  · exact st5.1.cell
  · exact st5.2.1.cell
  · exact st5.2.2.1.cell
  · exact st5.2.2.2.1.cell
  · exact st5.2.2.2.2.cell
theorem c_X5_stepped {p : Int32} (I : MI h S sz li lz kd) (kb : pl 12 p = none → Q (some (.int (-1))) h) (kn : ∀ j h', pl 12 p = some j → S.1 j = false → hx [46, 47] h h' → MI h' (s_fd S 1) sz li lz kd → Q (some (.int (-3))) h') (k1 : ∀ j h', pl 12 p = some j → j < 12 → p = nI j → S.1 j = true → hx [46, 51, 52, 53, 54, 55, 56, 57, 58] h h' → MI h' S (S.2.1 j).length (nI (S.2.1 j).sum) (NN (sno S j)) kd → StA h' (sno S j) → Q (some (.int (nI (kno S j)))) h') : Ok g MX5_stepped (m_J g MX5_stepped Q) 0 [some (.ref 46), some (.int p), none] [] h 0 0 := by
  have e0 := I.1
  refine ok_aload_n dX5_stepped_0 rfl rfl ?_
  refine ok_iload_n dX5_stepped_1 rfl ?_
  refine call_X5_looked dX5_stepped_2 lk_X5_81 ⟨Nat.le_of_ble_eq_true rfl, Nat.le_of_ble_eq_true rfl, Nat.le_of_ble_eq_true rfl⟩ (by assumption) (Nat.le_of_ble_eq_true rfl) ?_
  refine c_X5_looked I (fun q => ?_) (fun j h' q1 q2 x' I' => ?_) (fun j q1 q2 q3 q4 => ?_)
  · refine ok_istore_n dX5_stepped_5 (st_3_2 rfl) (Nat.le_of_ble_eq_true rfl) ?_
    refine ok_iload_n dX5_stepped_6 rfl ?_
    refine ok_if_ge (tgt := 12) dX5_stepped_7 (by decide) (fun c2 => ?_) (fun c2 => ?_)
    · exact absurd c2 (by decide)
    · refine ok_iload_n dX5_stepped_10 rfl ?_
      refine ok_iret dX5_stepped_11 rfl rfl ⟨Nat.le_of_ble_eq_true rfl, Nat.le_of_ble_eq_true rfl⟩ ?_
      exact kb q
  · refine ok_istore_n dX5_stepped_5 (st_3_2 rfl) (Nat.le_of_ble_eq_true rfl) ?_
    refine ok_iload_n dX5_stepped_6 rfl ?_
    refine ok_if_ge (tgt := 12) dX5_stepped_7 (by decide) (fun c2 => ?_) (fun c2 => ?_)
    · exact absurd c2 (by decide)
    · refine ok_iload_n dX5_stepped_10 rfl ?_
      refine ok_iret dX5_stepped_11 rfl rfl ⟨Nat.le_of_ble_eq_true rfl, Nat.le_of_ble_eq_true rfl⟩ ?_
      exact kn j h' q1 q2 x' I'
  · subst q3
    have ol := I.2.2.2.2.2.2.1 j q2 q4
    have hsum := ol.2.2
    refine ok_istore_n dX5_stepped_5 (st_3_2 rfl) (Nat.le_of_ble_eq_true rfl) ?_
    refine ok_iload_n dX5_stepped_6 rfl ?_
    refine okN_if_ge (tgt := 12) dX5_stepped_7 (by decide) (by omega) ?_
    refine ok_aload_n dX5_stepped_12 rfl rfl ?_
    refine ok_aload_n dX5_stepped_13 rfl rfl ?_
    refine ok_iload_n dX5_stepped_14 rfl ?_
    refine call_X5_cards dX5_stepped_15 lk_X5_84 ⟨Nat.le_of_ble_eq_true rfl, Nat.le_of_ble_eq_true rfl, Nat.le_of_ble_eq_true rfl⟩ (by assumption) (Nat.le_of_ble_eq_true rfl) ?_
    refine c_X5_cards I q2 q4 ?_
    dsimp only [m_push]
    refine call_X5_setSteps dX5_stepped_18 lk_X5_140 ⟨Nat.le_of_ble_eq_true rfl, Nat.le_of_ble_eq_true rfl, Nat.le_of_ble_eq_true rfl⟩ (by assumption) (Nat.le_of_ble_eq_true rfl) ?_
    refine c_X5_setSteps I (by omega) (fun h1 s1 x1 I1 st1 => ?_)
    have e01 := I1.1
    refine ok_aload_n dX5_stepped_21 rfl rfl ?_
    refine ok_iload_n dX5_stepped_22 rfl ?_
    refine call_X5_load dX5_stepped_23 lk_X5_118 ⟨Nat.le_of_ble_eq_true rfl, Nat.le_of_ble_eq_true rfl, Nat.le_of_ble_eq_true rfl⟩ (by assumption) (Nat.le_of_ble_eq_true rfl) ?_
    refine c_X5_load I1 q2 q4 (fun h2 x2 I2 R2 => ?_)
    have e02 := I2.1
    obtain ⟨l1, L2⟩ := I2.lst (n := (S.2.1 j).sum) (by omega)
    refine ok_aload_n dX5_stepped_26 rfl rfl ?_
    refine call_X5_rankRow dX5_stepped_27 lk_X5_121 ⟨Nat.le_of_ble_eq_true rfl, Nat.le_of_ble_eq_true rfl, Nat.le_of_ble_eq_true rfl⟩ (by assumption) (Nat.le_of_ble_eq_true rfl) ?_
    refine c_X5_rankRow ol (by omega) rfl (by rw [← l1]; exact e02) R2 L2 ?_
    refine ok_iret dX5_stepped_30 rfl rfl ⟨Nat.le_of_ble_eq_true rfl, Nat.le_of_ble_eq_true rfl⟩ ?_
    exact k1 j h2 q1 q2 rfl q4 (x1.tr x2 (by simp) (by simp)) I2 (st1.at x2 (fun a l1 l2 => by simp <;> omega))
end MSTEPS
