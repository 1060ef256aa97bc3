/-! ===== constructors ===== -/
section INITB
variable {g : mG} {M : mM} {J : mJ} {pc : Nat} {L L' : List (Option Value)} {sk : List Value} {h : mH} {uc us : Nat}
theorem okC_newI {N A B : Nat} (hA : h.1 = A) (hB : A + 1 = B) (hd : decode M.2.1 pc = .ok (.newarray .int, 2)) (hN : N < 2 ^ 20) (hu : uc + 1 ≤ M.2.2.2.2.2.1 ∧ us + N ≤ M.2.2.2.2.2.2) (k : ∀ h1, hn h h1 → h1.1 = B → hc h1 A = some (aI N (fun _ => 0)) → Ok g M J (pc + 2) L (.ref A :: sk) h1 (uc + 1) (us + N)) : Ok g M J pc L (.int (nI N) :: sk) h uc us := by
  subst hA
  subst hB
  exact okR_newI hd hN hu (fun h1 n e => k h1 n n.1 e)
theorem okC_newJ {N A B : Nat} (hA : h.1 = A) (hB : A + 1 = B) (hd : decode M.2.1 pc = .ok (.newarray .long, 2)) (hN : N < 2 ^ 20) (hu : uc + 1 ≤ M.2.2.2.2.2.1 ∧ us + N ≤ M.2.2.2.2.2.2) (k : ∀ h1, hn h h1 → h1.1 = B → hc h1 A = some (aJ N (fun _ => 0)) → Ok g M J (pc + 2) L (.ref A :: sk) h1 (uc + 1) (us + N)) : Ok g M J pc L (.int (nI N) :: sk) h uc us := by
  subst hA
  subst hB
  exact okR_newJ hd hN hu (fun h1 n e => k h1 n n.1 e)
theorem okC_newZ {N A B : Nat} (hA : h.1 = A) (hB : A + 1 = B) (hd : decode M.2.1 pc = .ok (.newarray .boolean, 2)) (hN : N < 2 ^ 20) (hu : uc + 1 ≤ M.2.2.2.2.2.1 ∧ us + N ≤ M.2.2.2.2.2.2) (k : ∀ h1, hn h h1 → h1.1 = B → hc h1 A = some (aZ N (fun _ => 0)) → Ok g M J (pc + 2) L (.ref A :: sk) h1 (uc + 1) (us + N)) : Ok g M J pc L (.int (nI N) :: sk) h uc us := by
  subst hA
  subst hB
  exact okR_newZ hd hN hu (fun h1 n e => k h1 n n.1 e)
theorem okC_newA {N t idx A B : Nat} {C0 : String} (hA : h.1 = A) (hB : A + 1 = B) (hd : decode M.2.1 pc = .ok (.anewarray idx, 3)) (ht : m_ty5[t]? = some (.object C0)) (hl : Cond.classLink M.1.cls idx C0 ∈ m_tb) (ho : ∀ U, m_X U → va_AO C0 U) (hN : N < 2 ^ 20) (hu : uc + 1 ≤ M.2.2.2.2.2.1 ∧ us + N ≤ M.2.2.2.2.2.2) (k : ∀ h1, hn h h1 → h1.1 = B → hc h1 A = some (aA C0 N (fun _ => none)) → Ok g M J (pc + 3) L (.ref A :: sk) h1 (uc + 1) (us + N)) : Ok g M J pc L (.int (nI N) :: sk) h uc us := by
  subst hA
  subst hB
  exact okR_newA hd ht hl ho hN hu (fun h1 n e => k h1 n n.1 e)
theorem okC_new {ci idx A B : Nat} {r : vw_C} {fs : List Value} (hA : h.1 = A) (hB : A + 1 = B) (ty0 : Nat → FieldType) (hd : decode M.2.1 pc = .ok (.new idx, 3)) (hr : m_cl[ci]? = some r) (hin : m_in (u_ws r.1 r.2.1 r.2.2)) (hty : ∀ k, k < r.2.2 → parseFieldDescriptor (r.2.1 k).2.2.1 = some (ty0 k)) (hl : Cond.classLink M.1.cls idx r.1 ∈ m_tb ∧ Cond.instantiable r.1 r.2.2 ∈ m_tb ∧ Cond.initialized r.1 ∈ m_tb) (hfs : ∀ j, j < r.2.2 → defaultValue (ty0 j) = vp_V fs j) (hsv : ∀ b, fs.map (m_sv b) = fs) (hu : uc + 1 ≤ M.2.2.2.2.2.1 ∧ us + r.2.2 ≤ M.2.2.2.2.2.2)
    (k : ∀ h1, hn h h1 → h1.1 = B → hc h1 A = some (.inr (ci, fs)) → Ok g M J (pc + 3) L (.ref A :: sk) h1 (uc + 1) (us + r.2.2)) : Ok g M J pc L sk h uc us := by
  subst hA
  subst hB
  exact okR_new ty0 hd hr hin hty hl hfs hsv hu (fun h1 n e => k h1 n n.1 e)
end INITB
theorem cho_m0 : ∀ m, m < 19 → choF (m * 19) = 1 := by decide +kernel
theorem cho_rec : ∀ m, m < 18 → ∀ q, q < 18 → choF ((m + 1) * 19 + (q + 1)) = choF (m * 19 + q) + choF (m * 19 + (q + 1)) := by decide +kernel
theorem cho_z : ∀ m, m < 19 → ∀ q, q < 19 → m < q → choF (m * 19 + q) = 0 := by decide +kernel
section INIT
variable {g : mG} {h : mH} {Q : Option Value → mH → Prop} {a : Nat}
theorem c_X3_init (ea : hc h a = some (.inr (3, nfX3))) (k : ∀ h', h'.1 = h.1 + 1 → hw [a] h h' → hc h' a = some (rowc h.1 0 0) → hc h' h.1 = some (aI 18 (fun _ => 0)) → Q none h') : Ok g MX3_init (m_J g MX3_init Q) 0 [some (.ref a)] [] h 0 0 := by
  have la := (hc_lt ea).1
  refine ok_aload_n dX3_init_0 rfl rfl ?_
  refine ok_obj dX3_init_1 ob_X3_3 (Nat.le_of_ble_eq_true rfl) (Nat.le_of_ble_eq_true rfl) ?_
  refine ok_aload_n dX3_init_4 rfl rfl ?_
  refine ok_bipush (v := nI 18) dX3_init_5 (by decide) ?_
  refine okR_newI dX3_init_7 (by decide) ⟨Nat.le_of_ble_eq_true rfl, Nat.le_of_ble_eq_true rfl⟩ (fun h1 n1 e1 => ?_)
  have ea1 : hc h1 a = some (.inr (3, [.null, .int (nI 0), .int (nI 0)])) := n1.at ea
  refine okR_putF dX3_init_9 rfl fl_X3_9 (by assumption) (Nat.le_of_ble_eq_true rfl) (fun _ => ⟨rfl, rfl⟩) set_3_0 (fun h2 hx2 he2 => ?_)
  refine ok_vret dX3_init_12 rfl ⟨Nat.le_of_ble_eq_true rfl, Nat.le_of_ble_eq_true rfl⟩ ?_
  exact k h2 (by rw [hx2.1, n1.1]) (n1.w.tr hx2.w (by simp)) he2 (hx2.at (by simp <;> omega) e1)
theorem l_X1_init1 {A : Nat} (hA : a ≠ A) (k : ∀ h' F z, hx [A] h h' → hc h' a = some (.inr (1, [.ref A])) → hc h' A = some (aI 361 F) → (∀ j, j < 19 → F j = 1) → (∀ j, 19 ≤ j → F j = 0) → Ok g MX1_init (m_J g MX1_init Q) 34 [some (.ref a), z, none, none] [] h' 1 361) :
    ∀ (d i : Nat) (h1 : mH) (F : Nat → Nat), i + d = 19 → hx [A] h h1 → hc h1 a = some (.inr (1, [.ref A])) → hc h1 A = some (aI 361 F) → (∀ j, j < i → F j = 1) → (∀ j, i ≤ j → F j = 0) → Ok g MX1_init (m_J g MX1_init Q) 15 [some (.ref a), some (.int (nI i)), none, none] [] h1 1 361 := by
  intro d
  induction d with
  | zero =>
    intro i h1 F hi x1 ea eA f1 f2
    have ei : i = 19 := by omega
    subst ei
    refine ok_iload_n dX1_init_15 rfl ?_
    refine ok_bipush (v := nI 19) dX1_init_16 (by decide) ?_
    refine okN_icmp_ge (tgt := 34) dX1_init_18 (by decide) (by omega) (by omega) (fun c1 => ?_) (fun c1 => ?_)
    · exact k h1 F _ x1 ea eA f1 f2
    · exact absurd c1 (by omega)
  | succ d ih =>
    intro i h1 F hi x1 ea eA f1 f2
    refine ok_iload_n dX1_init_15 rfl ?_
    refine ok_bipush (v := nI 19) dX1_init_16 (by decide) ?_
    refine okN_icmp_ge (tgt := 34) dX1_init_18 (by decide) (by omega) (by omega) (fun c1 => ?_) (fun c1 => ?_)
    · exact absurd c1 (by omega)
    · refine ok_aload_n dX1_init_21 rfl rfl ?_
      refine ok_get dX1_init_22 fl_X1_9 (by assumption) (by rfl) ?_
      refine ok_iload_n dX1_init_25 rfl ?_
      refine ok_iconst (v := nI 1) dX1_init_26 (by decide) ?_
      first | refine okN_iast dX1_init_27 (by assumption) (by omega) (by decide) (fun h2 hx2 he2 => ?_) | refine okC_iast dX1_init_27 (by assumption) (by omega) (by omega) (by omega) (fun h2 hx2 he2 => ?_) | refine okF_iast dX1_init_27 (by assumption) (by omega) (by omega) (fun h2 hx2 he2 => ?_) | refine okN_kast dX1_init_27 (by assumption) (by omega) (by decide) (fun h2 hx2 he2 => ?_)
      refine okN_inc dX1_init_28 rfl (st_4_1 rfl) (Nat.le_of_ble_eq_true rfl) ?_
      refine ok_goto (tgt := 15) dX1_init_31 (by decide) ?_
      refine ih (i + 1) h2 _ (by omega) (x1.tr' hx2) (hx2.at (by simp [hA]) ea) he2 (fun j hj => ?_) (fun j hj => ?_)
      · by_cases z : j = i
        · rw [z, up_eq]
        · rw [up_ne z, f1 j (by omega)]
      · rw [up_ne (by omega), f2 j (by omega)]
theorem l_X1_init2 {A n : Nat} (hA : a ≠ A) (hn1 : 1 ≤ n) (hn : n < 19) {z3 : Option Value} (k : ∀ h' F z z', hx [A] h h' → hc h' a = some (.inr (1, [.ref A])) → hc h' A = some (aI 361 F) → (∀ j, j < n * 19 + 19 → F j = capF j) → (∀ j, n * 19 + 19 ≤ j → F j = 0) → Ok g MX1_init (m_J g MX1_init Q) 105 [some (.ref a), some (.int (nI n)), z, z'] [] h' 1 361) :
    ∀ (d m : Nat) (h1 : mH) (F : Nat → Nat) (z3 : Option Value), m + d = 19 → 1 ≤ m → hx [A] h h1 → hc h1 a = some (.inr (1, [.ref A])) → hc h1 A = some (aI 361 F) → (∀ j, j < n * 19 + m → F j = capF j) → (∀ j, n * 19 + m ≤ j → F j = 0) → Ok g MX1_init (m_J g MX1_init Q) 44 [some (.ref a), some (.int (nI n)), some (.int (nI m)), z3] [] h1 1 361 := by
  intro d
  induction d with
  | zero =>
    intro m h1 F z3 hm hm1 x1 ea eA f1 f2
    have em : m = 19 := by omega
    subst em
    refine ok_iload_n dX1_init_44 rfl ?_
    refine ok_bipush (v := nI 19) dX1_init_45 (by decide) ?_
    refine okN_icmp_ge (tgt := 105) dX1_init_47 (by decide) (by omega) (by omega) (fun c1 => ?_) (fun c1 => ?_)
    · exact k h1 F _ _ x1 ea eA f1 f2
    · exact absurd c1 (by omega)
  | succ d ih =>
    intro m h1 F z3 hm hm1 x1 ea eA f1 f2
    obtain ⟨n', rfl⟩ : ∃ n', n = n' + 1 := ⟨n - 1, by omega⟩
    obtain ⟨m', rfl⟩ : ∃ m', m = m' + 1 := ⟨m - 1, by omega⟩
    have cr := cap_nm n' (by omega) m' (by omega)
    have rest : ∀ w, w = (if m' ≤ n' then capF ((n' - m') * 19 + (m' + 1)) else 0) → Ok g MX1_init (m_J g MX1_init Q) 72 [some (.ref a), some (.int (nI (n' + 1))), some (.int (nI (m' + 1))), z3] [.int (nI w)] h1 1 361 := by
      intro w hw
      refine ok_istore_n dX1_init_72 (st_4_3 rfl) (Nat.le_of_ble_eq_true rfl) ?_
      refine ok_aload_n dX1_init_73 rfl rfl ?_
      refine ok_get dX1_init_74 fl_X1_9 (by assumption) (by rfl) ?_
      refine ok_iload_n dX1_init_77 rfl ?_
      refine ok_bipush (v := nI 19) dX1_init_78 (by decide) ?_
      first | refine okN_imul dX1_init_80 ?_ | refine ok_imul dX1_init_80 ?_
      refine ok_iload_n dX1_init_81 rfl ?_
      first | refine okN_iadd dX1_init_82 ?_ | refine ok_iadd dX1_init_82 ?_
      refine ok_aload_n dX1_init_83 rfl rfl ?_
      refine ok_get dX1_init_84 fl_X1_9 (by assumption) (by rfl) ?_
      refine ok_iload_n dX1_init_87 rfl ?_
      refine ok_bipush (v := nI 19) dX1_init_88 (by decide) ?_
      first | refine okN_imul dX1_init_90 ?_ | refine ok_imul dX1_init_90 ?_
      refine ok_iload_n dX1_init_91 rfl ?_
      first | refine okN_iadd dX1_init_92 ?_ | refine ok_iadd dX1_init_92 ?_
      refine ok_iconst (v := nI 1) dX1_init_93 (by decide) ?_
      first | refine okN_isub dX1_init_94 (by omega) ?_ | refine ok_isub dX1_init_94 ?_
      rw [show (n' + 1) * 19 + (m' + 1) - 1 = (n' + 1) * 19 + m' by omega]
      first | refine okN_iald dX1_init_95 (by assumption) (by omega) (by decide) ?_ | refine okF_iald dX1_init_95 (by assumption) (by omega) (by omega) ?_ | refine okN_kald dX1_init_95 (by assumption) (by omega) (by decide) ?_
      rw [f1 _ (by omega)]
      refine ok_iload_n dX1_init_96 rfl ?_
      first | refine okN_iadd dX1_init_97 ?_ | refine ok_iadd dX1_init_97 ?_
      first | refine okN_iast dX1_init_98 (by assumption) (by omega) (by decide) (fun h2 hx2 he2 => ?_) | refine okC_iast dX1_init_98 (by assumption) (by omega) (by omega) (by omega) (fun h2 hx2 he2 => ?_) | refine okF_iast dX1_init_98 (by assumption) (by omega) (by omega) (fun h2 hx2 he2 => ?_) | refine okN_kast dX1_init_98 (by assumption) (by omega) (by decide) (fun h2 hx2 he2 => ?_)
      rw [hw, ← cr] at he2
      refine okN_inc dX1_init_99 rfl (st_4_2 rfl) (Nat.le_of_ble_eq_true rfl) ?_
      refine ok_goto (tgt := 44) dX1_init_102 (by decide) ?_
      refine ih (m' + 2) h2 _ _ (by omega) (by omega) (x1.tr' hx2) (hx2.at (by simp [hA]) ea) he2 (fun j hj => ?_) (fun j hj => ?_)
      · by_cases z : j = (n' + 1) * 19 + (m' + 1)
        · rw [z, up_eq]
        · rw [up_ne z, f1 j (by omega)]
      · rw [up_ne (by omega), f2 j (by omega)]
    refine ok_iload_n dX1_init_44 rfl ?_
    refine ok_bipush (v := nI 19) dX1_init_45 (by decide) ?_
    refine okN_icmp_ge (tgt := 105) dX1_init_47 (by decide) (by omega) (by omega) (fun c1 => ?_) (fun c1 => ?_)
    · exact absurd c1 (by omega)
    · refine ok_iload_n dX1_init_50 rfl ?_
      refine ok_iload_n dX1_init_51 rfl ?_
      refine okN_icmp_gt (tgt := 71) dX1_init_52 (by decide) (by omega) (by omega) (fun c2 => ?_) (fun c2 => ?_)
      · refine ok_iconst (v := nI 0) dX1_init_71 (by decide) ?_
        exact rest 0 (by rw [if_neg (by omega)])
      · refine ok_aload_n dX1_init_55 rfl rfl ?_
        refine ok_get dX1_init_56 fl_X1_9 (by assumption) (by rfl) ?_
        refine ok_iload_n dX1_init_59 rfl ?_
        refine ok_iload_n dX1_init_60 rfl ?_
        refine okN_isub dX1_init_61 (by omega) ?_
        rw [show n' + 1 - (m' + 1) = n' - m' by omega]
        refine ok_bipush (v := nI 19) dX1_init_62 (by decide) ?_
        first | refine okN_imul dX1_init_64 ?_ | refine ok_imul dX1_init_64 ?_
        refine ok_iload_n dX1_init_65 rfl ?_
        first | refine okN_iadd dX1_init_66 ?_ | refine ok_iadd dX1_init_66 ?_
        first | refine okN_iald dX1_init_67 (by assumption) (by omega) (by decide) ?_ | refine okF_iald dX1_init_67 (by assumption) (by omega) (by omega) ?_ | refine okN_kald dX1_init_67 (by assumption) (by omega) (by decide) ?_
        rw [f1 _ (by omega)]
        refine ok_goto (tgt := 72) dX1_init_68 (by decide) ?_
        exact rest _ (by rw [if_pos (by omega)])
theorem l_X1_init3 {A : Nat} (hA : a ≠ A) (k : ∀ h', hx [A] h h' → Ls h' a A → Q none h') :
    ∀ (d n : Nat) (h1 : mH) (F : Nat → Nat) (z2 z3 : Option Value), n + d = 19 → 1 ≤ n → hx [A] h h1 → hc h1 a = some (.inr (1, [.ref A])) → hc h1 A = some (aI 361 F) → (∀ j, j < n * 19 → F j = capF j) → (∀ j, n * 19 ≤ j → F j = 0) → Ok g MX1_init (m_J g MX1_init Q) 36 [some (.ref a), some (.int (nI n)), z2, z3] [] h1 1 361 := by
  intro d
  induction d with
  | zero =>
    intro n h1 F z2 z3 hn hn1 x1 ea eA f1 f2
    have en : n = 19 := by omega
    subst en
    refine ok_extI eA (fun j hj => f1 j (by omega)) (fun h2 x2 eA2 => ?_)
    refine ok_iload_n dX1_init_36 rfl ?_
    refine ok_bipush (v := nI 19) dX1_init_37 (by decide) ?_
    refine okN_icmp_ge (tgt := 111) dX1_init_39 (by decide) (by omega) (by omega) (fun c1 => ?_) (fun c1 => ?_)
    · refine ok_vret dX1_init_111 rfl ⟨Nat.le_of_ble_eq_true rfl, Nat.le_of_ble_eq_true rfl⟩ ?_
      exact k h2 (x1.tr' x2) ⟨x2.at (by simp [hA]) ea, eA2⟩
    · exact absurd c1 (by omega)
  | succ d ih =>
    intro n h1 F z2 z3 hn hn1 x1 ea eA f1 f2
    have cz := cap_n0 (n - 1) (by omega)
    rw [show n - 1 + 1 = n by omega] at cz
    refine ok_iload_n dX1_init_36 rfl ?_
    refine ok_bipush (v := nI 19) dX1_init_37 (by decide) ?_
    refine okN_icmp_ge (tgt := 111) dX1_init_39 (by decide) (by omega) (by omega) (fun c1 => ?_) (fun c1 => ?_)
    · exact absurd c1 (by omega)
    · refine ok_iconst (v := nI 1) dX1_init_42 (by decide) ?_
      refine ok_istore_n dX1_init_43 (st_4_2 rfl) (Nat.le_of_ble_eq_true rfl) ?_
      refine l_X1_init2 (h := h1) (z3 := none) hA hn1 c1 (fun h2 F2 z z' x2 ea2 eA2 g1 g2 => ?_) 18 1 h1 F _ (by omega) (by omega) hx.rf ea eA (fun j hj => ?_) (fun j hj => f2 j (by omega))
      · refine okN_inc dX1_init_105 rfl (st_4_1 rfl) (Nat.le_of_ble_eq_true rfl) ?_
        refine ok_goto (tgt := 36) dX1_init_108 (by decide) ?_
        exact ih (n + 1) h2 F2 _ _ (by omega) (by omega) (x1.tr' x2) ea2 eA2 (fun j hj => g1 j (by omega)) (fun j hj => g2 j (by omega))
      · by_cases z : j = n * 19
        · rw [z, cz, f2 _ (Nat.le_refl _)]
        · exact f1 j (by omega)
theorem c_X1_init (ea : hc h a = some (.inr (1, nfX1))) (k : ∀ h', h'.1 = h.1 + 1 → hw [a] h h' → Ls h' a h.1 → Q none h') : Ok g MX1_init (m_J g MX1_init Q) 0 [some (.ref a), none, none, none] [] h 0 0 := by
  have la := (hc_lt ea).1
  refine ok_aload_n dX1_init_0 rfl rfl ?_
  refine ok_obj dX1_init_1 ob_X1_3 (Nat.le_of_ble_eq_true rfl) (Nat.le_of_ble_eq_true rfl) ?_
  refine ok_aload_n dX1_init_4 rfl rfl ?_
  refine ok_sipush (v := nI 361) dX1_init_5 (by decide) ?_
  refine okR_newI dX1_init_8 (by decide) ⟨Nat.le_of_ble_eq_true rfl, Nat.le_of_ble_eq_true rfl⟩ (fun h1 n1 e1 => ?_)
  have ea1 : hc h1 a = some (.inr (1, [.null])) := n1.at ea
  have hA : a ≠ h.1 := by omega
  refine okR_putF dX1_init_10 rfl fl_X1_9 (by assumption) (Nat.le_of_ble_eq_true rfl) (fun _ => ⟨rfl, rfl⟩) set_1_0 (fun h2 hx2 he2 => ?_)
  refine ok_iconst (v := nI 0) dX1_init_13 (by decide) ?_
  refine ok_istore_n dX1_init_14 (st_4_1 rfl) (Nat.le_of_ble_eq_true rfl) ?_
  refine l_X1_init1 (h := h2) hA (fun h3 F z x3 ea3 eA3 f1 f2 => ?_) 19 0 h2 _ (by omega) hx.rf he2 (hx2.at (by simp <;> omega) e1) (fun j hj => by omega) (fun j hj => rfl)
  refine ok_iconst (v := nI 1) dX1_init_34 (by decide) ?_
  refine ok_istore_n dX1_init_35 (st_4_1 rfl) (Nat.le_of_ble_eq_true rfl) ?_
  refine l_X1_init3 (h := h3) hA (fun h4 x4 L4 => ?_) 18 1 h3 F _ _ (by omega) (by omega) hx.rf ea3 eA3 (fun j hj => by rw [f1 j (by omega), cap_0 j (by omega)]) (fun j hj => f2 j (by omega))
  refine k h4 (by rw [x4.1, x3.1, hx2.1, n1.1]) ⟨by rw [x4.1, x3.1, hx2.1, n1.1]; omega, fun q hq hn0 => ?_⟩ L4
  rw [x4.2 q (by simp <;> omega), x3.2 q (by simp <;> omega), hx2.2 q hn0, n1.2 q (by omega)]
theorem l_X2_init2 {m : Nat} {c1 c2 : Value} (hm : m < 19) {fs : List Value} (hfs : fs = [.ref 7, .ref 8, .ref 9, .ref 10, .ref 11, .ref 13, .ref 15, .ref 16]) (k : ∀ h' F z, hx [7] h h' → hc h' 6 = some (mxo 15 16) → hc h' 7 = some (aI 361 F) → (∀ j, j < m * 19 + (m + 1) → F j = choF j) → (∀ j, m * 19 + (m + 1) ≤ j → F j = 0) → Ok g MX2_init (m_J g MX2_init Q) 148 [some (.ref 6), some (.int (nI m)), z] [] h' 10 1233) :
    ∀ (d q : Nat) (h1 : mH) (F : Nat → Nat), q + d = m + 1 → 1 ≤ q → hx [7] h h1 → hc h1 6 = some (mxo 15 16) → hc h1 7 = some (aI 361 F) → (∀ j, j < m * 19 + q → F j = choF j) → (∀ j, m * 19 + q ≤ j → F j = 0) → Ok g MX2_init (m_J g MX2_init Q) 97 [some (.ref 6), some (.int (nI m)), some (.int (nI q))] [] h1 10 1233 := by
  intro d
  induction d with
  | zero =>
    intro q h1 F hq hq1 x1 ea eA f1 f2
    have eq : q = m + 1 := by omega
    subst eq
    refine ok_iload_n dX2_init_97 rfl ?_
    refine ok_iload_n dX2_init_98 rfl ?_
    refine okN_icmp_gt (tgt := 148) dX2_init_99 (by decide) (by omega) (by omega) (fun c1 => ?_) (fun c1 => ?_)
    · exact k h1 F _ x1 ea eA f1 f2
    · exact absurd c1 (by omega)
  | succ d ih =>
    intro q h1 F hq hq1 x1 ea eA f1 f2
    obtain ⟨m', rfl⟩ : ∃ m', m = m' + 1 := ⟨m - 1, by omega⟩
    obtain ⟨q', rfl⟩ : ∃ q', q = q' + 1 := ⟨q - 1, by omega⟩
    have cr := cho_rec m' (by omega) q' (by omega)
    refine ok_iload_n dX2_init_97 rfl ?_
    refine ok_iload_n dX2_init_98 rfl ?_
    refine okN_icmp_gt (tgt := 148) dX2_init_99 (by decide) (by omega) (by omega) (fun c1 => ?_) (fun c1 => ?_)
    · exact absurd c1 (by omega)
    · refine ok_aload_n dX2_init_102 rfl rfl ?_
      refine ok_get dX2_init_103 fl_X2_9 (by assumption) (by rfl) ?_
      refine ok_iload_n dX2_init_106 rfl ?_
      refine ok_bipush (v := nI 19) dX2_init_107 (by decide) ?_
      first | refine okN_imul dX2_init_109 ?_ | refine ok_imul dX2_init_109 ?_
      refine ok_iload_n dX2_init_110 rfl ?_
      first | refine okN_iadd dX2_init_111 ?_ | refine ok_iadd dX2_init_111 ?_
      refine ok_aload_n dX2_init_112 rfl rfl ?_
      refine ok_get dX2_init_113 fl_X2_9 (by assumption) (by rfl) ?_
      refine ok_iload_n dX2_init_116 rfl ?_
      refine ok_iconst (v := nI 1) dX2_init_117 (by decide) ?_
      first | refine okN_isub dX2_init_118 (by omega) ?_ | refine ok_isub dX2_init_118 ?_
      refine ok_bipush (v := nI 19) dX2_init_119 (by decide) ?_
      first | refine okN_imul dX2_init_121 ?_ | refine ok_imul dX2_init_121 ?_
      refine ok_iload_n dX2_init_122 rfl ?_
      first | refine okN_iadd dX2_init_123 ?_ | refine ok_iadd dX2_init_123 ?_
      refine ok_iconst (v := nI 1) dX2_init_124 (by decide) ?_
      first | refine okN_isub dX2_init_125 (by omega) ?_ | refine ok_isub dX2_init_125 ?_
      rw [show m' + 1 - 1 = m' from rfl, show m' * 19 + (q' + 1) - 1 = m' * 19 + q' by omega]
      first | refine okN_iald dX2_init_126 (by assumption) (by omega) (by decide) ?_ | refine okF_iald dX2_init_126 (by assumption) (by omega) (by omega) ?_ | refine okN_kald dX2_init_126 (by assumption) (by omega) (by decide) ?_
      rw [f1 _ (by omega)]
      refine ok_aload_n dX2_init_127 rfl rfl ?_
      refine ok_get dX2_init_128 fl_X2_9 (by assumption) (by rfl) ?_
      refine ok_iload_n dX2_init_131 rfl ?_
      refine ok_iconst (v := nI 1) dX2_init_132 (by decide) ?_
      first | refine okN_isub dX2_init_133 (by omega) ?_ | refine ok_isub dX2_init_133 ?_
      refine ok_bipush (v := nI 19) dX2_init_134 (by decide) ?_
      first | refine okN_imul dX2_init_136 ?_ | refine ok_imul dX2_init_136 ?_
      refine ok_iload_n dX2_init_137 rfl ?_
      first | refine okN_iadd dX2_init_138 ?_ | refine ok_iadd dX2_init_138 ?_
      rw [show m' + 1 - 1 = m' from rfl]
      first | refine okN_iald dX2_init_139 (by assumption) (by omega) (by decide) ?_ | refine okF_iald dX2_init_139 (by assumption) (by omega) (by omega) ?_ | refine okN_kald dX2_init_139 (by assumption) (by omega) (by decide) ?_
      rw [f1 _ (by omega)]
      first | refine okN_iadd dX2_init_140 ?_ | refine ok_iadd dX2_init_140 ?_
      first | refine okN_iast dX2_init_141 (by assumption) (by omega) (by decide) (fun h2 hx2 he2 => ?_) | refine okC_iast dX2_init_141 (by assumption) (by omega) (by omega) (by omega) (fun h2 hx2 he2 => ?_) | refine okF_iast dX2_init_141 (by assumption) (by omega) (by omega) (fun h2 hx2 he2 => ?_) | refine okN_kast dX2_init_141 (by assumption) (by omega) (by decide) (fun h2 hx2 he2 => ?_)
      rw [← cr] at he2
      refine okN_inc dX2_init_142 rfl (st_3_2 rfl) (Nat.le_of_ble_eq_true rfl) ?_
      refine ok_goto (tgt := 97) dX2_init_145 (by decide) ?_
      refine ih (q' + 2) h2 _ (by omega) (by omega) (x1.tr' hx2) (hx2.at (by decide) ea) he2 (fun j hj => ?_) (fun j hj => ?_)
      · by_cases z : j = (m' + 1) * 19 + (q' + 1)
        · rw [z, up_eq]
        · rw [up_ne z, f1 j (by omega)]
      · rw [up_ne (by omega), f2 j (by omega)]
theorem l_X2_init3 (k : ∀ h', hx [7] h h' → hc h' 6 = some (mxo 15 16) → hc h' 7 = some (aI 361 choF) → Q none h') :
    ∀ (d m : Nat) (h1 : mH) (F : Nat → Nat) (z2 : Option Value), m + d = 19 → hx [7] h h1 → hc h1 6 = some (mxo 15 16) → hc h1 7 = some (aI 361 F) → (∀ j, j < m * 19 → F j = choF j) → (∀ j, m * 19 ≤ j → F j = 0) → Ok g MX2_init (m_J g MX2_init Q) 79 [some (.ref 6), some (.int (nI m)), z2] [] h1 10 1233 := by
  intro d
  induction d with
  | zero =>
    intro m h1 F z2 hm x1 ea eA f1 f2
    have em : m = 19 := by omega
    subst em
    refine ok_extI eA (fun j hj => f1 j (by omega)) (fun h2 x2 eA2 => ?_)
    refine ok_iload_n dX2_init_79 rfl ?_
    refine ok_bipush (v := nI 19) dX2_init_80 (by decide) ?_
    refine okN_icmp_ge (tgt := 154) dX2_init_82 (by decide) (by omega) (by omega) (fun c1 => ?_) (fun c1 => ?_)
    · refine ok_vret dX2_init_154 rfl ⟨Nat.le_of_ble_eq_true rfl, Nat.le_of_ble_eq_true rfl⟩ ?_
      exact k h2 (x1.tr' x2) (x2.at (by decide) ea) eA2
    · exact absurd c1 (by omega)
  | succ d ih =>
    intro m h1 F z2 hm x1 ea eA f1 f2
    have c0 := cho_m0 m (by omega)
    refine ok_iload_n dX2_init_79 rfl ?_
    refine ok_bipush (v := nI 19) dX2_init_80 (by decide) ?_
    refine okN_icmp_ge (tgt := 154) dX2_init_82 (by decide) (by omega) (by omega) (fun c1 => ?_) (fun c1 => ?_)
    · exact absurd c1 (by omega)
    · refine ok_aload_n dX2_init_85 rfl rfl ?_
      refine ok_get dX2_init_86 fl_X2_9 (by assumption) (by rfl) ?_
      refine ok_iload_n dX2_init_89 rfl ?_
      refine ok_bipush (v := nI 19) dX2_init_90 (by decide) ?_
      first | refine okN_imul dX2_init_92 ?_ | refine ok_imul dX2_init_92 ?_
      refine ok_iconst (v := nI 1) dX2_init_93 (by decide) ?_
      first | refine okN_iast dX2_init_94 (by assumption) (by omega) (by decide) (fun h2 hx2 he2 => ?_) | refine okC_iast dX2_init_94 (by assumption) (by omega) (by omega) (by omega) (fun h2 hx2 he2 => ?_) | refine okF_iast dX2_init_94 (by assumption) (by omega) (by omega) (fun h2 hx2 he2 => ?_) | refine okN_kast dX2_init_94 (by assumption) (by omega) (by decide) (fun h2 hx2 he2 => ?_)
      refine ok_iconst (v := nI 1) dX2_init_95 (by decide) ?_
      refine ok_istore_n dX2_init_96 (st_3_2 rfl) (Nat.le_of_ble_eq_true rfl) ?_
      refine l_X2_init2 (h := h2) (c1 := .null) (c2 := .null) c1 rfl (fun h3 F3 z x3 ea3 eA3 g1 g2 => ?_) m 1 h2 _ (by omega) (by omega) hx.rf (hx2.at (by decide) ea) he2 (fun j hj => ?_) (fun j hj => ?_)
      · refine okN_inc dX2_init_148 rfl (st_3_1 rfl) (Nat.le_of_ble_eq_true rfl) ?_
        refine ok_goto (tgt := 79) dX2_init_151 (by decide) ?_
        refine ih (m + 1) h3 F3 _ (by omega) ((x1.tr' hx2).tr' x3) ea3 eA3 (fun j hj => ?_) (fun j hj => g2 j (by omega))
        by_cases z : j < m * 19 + (m + 1)
        · exact g1 j z
        · rw [g2 j (by omega)]
          have := cho_z m (by omega) (j - m * 19) (by omega) (by omega)
          rw [show m * 19 + (j - m * 19) = j by omega] at this
          exact this.symm
      · by_cases z : j = m * 19
        · rw [z, up_eq, c0]
        · rw [up_ne z, f1 j (by omega)]
      · rw [up_ne (by omega), f2 j (by omega)]

theorem c_X2_init (z0 : h.1 = 7) (ea : hc h 6 = some (.inr (2, nfX2))) (k : ∀ h', h'.1 = 17 → hw [6] h h' → I5 h' → Q none h') : Ok g MX2_init (m_J g MX2_init Q) 0 [some (.ref 6), none, none] [] h 0 0 := by
  have ea' : hc h 6 = some (.inr (2, [.null, .null, .null, .null, .null, .null, .null, .null])) := ea
  refine ok_aload_n dX2_init_0 rfl rfl ?_
  refine ok_obj dX2_init_1 ob_X2_3 (Nat.le_of_ble_eq_true rfl) (Nat.le_of_ble_eq_true rfl) ?_
  refine ok_aload_n dX2_init_4 rfl rfl ?_
  refine ok_sipush (v := nI 361) dX2_init_5 (by decide) ?_
  refine okC_newI (B := 8) z0 rfl dX2_init_8 (by decide) ⟨Nat.le_of_ble_eq_true rfl, Nat.le_of_ble_eq_true rfl⟩ (fun h1 n1 z1 e1 => ?_)
  have a1 := n1.at ea'
  refine okR_putF dX2_init_10 rfl fl_X2_9 (by assumption) (Nat.le_of_ble_eq_true rfl) (fun _ => ⟨rfl, rfl⟩) set_8_0 (fun h2 hx2 he2 => ?_)
  refine ok_aload_n dX2_init_13 rfl rfl ?_
  refine ok_bipush (v := nI 20) dX2_init_14 (by decide) ?_
  have z2 := hx2.1.trans z1
  have s2 : hw [6] h h2 := (n1.w).tr hx2.w (by simp)
  refine okC_newI (B := 9) z2 rfl dX2_init_16 (by decide) ⟨Nat.le_of_ble_eq_true rfl, Nat.le_of_ble_eq_true rfl⟩ (fun h3 n3 z3 e3 => ?_)
  have a3 := n3.at he2
  refine okR_putF dX2_init_18 rfl fl_X2_15 (by assumption) (Nat.le_of_ble_eq_true rfl) (fun _ => ⟨rfl, rfl⟩) set_8_1 (fun h4 hx4 he4 => ?_)
  refine ok_aload_n dX2_init_21 rfl rfl ?_
  refine ok_bipush (v := nI 20) dX2_init_22 (by decide) ?_
  have z4 := hx4.1.trans z3
  have s4 : hw [6] h2 h4 := (n3.w).tr hx4.w (by simp)
  refine okC_newI (B := 10) z4 rfl dX2_init_24 (by decide) ⟨Nat.le_of_ble_eq_true rfl, Nat.le_of_ble_eq_true rfl⟩ (fun h5 n5 z5 e5 => ?_)
  have a5 := n5.at he4
  refine okR_putF dX2_init_26 rfl fl_X2_18 (by assumption) (Nat.le_of_ble_eq_true rfl) (fun _ => ⟨rfl, rfl⟩) set_8_2 (fun h6 hx6 he6 => ?_)
  refine ok_aload_n dX2_init_29 rfl rfl ?_
  refine ok_bipush (v := nI 20) dX2_init_30 (by decide) ?_
  have z6 := hx6.1.trans z5
  have s6 : hw [6] h4 h6 := (n5.w).tr hx6.w (by simp)
  refine okC_newI (B := 11) z6 rfl dX2_init_32 (by decide) ⟨Nat.le_of_ble_eq_true rfl, Nat.le_of_ble_eq_true rfl⟩ (fun h7 n7 z7 e7 => ?_)
  have a7 := n7.at he6
  refine okR_putF dX2_init_34 rfl fl_X2_21 (by assumption) (Nat.le_of_ble_eq_true rfl) (fun _ => ⟨rfl, rfl⟩) set_8_3 (fun h8 hx8 he8 => ?_)
  refine ok_aload_n dX2_init_37 rfl rfl ?_
  have z8 := hx8.1.trans z7
  have s8 : hw [6] h6 h8 := (n7.w).tr hx8.w (by simp)
  refine okC_new (B := 12) (ci := 3) (r := (RX3, TX3, 3)) (fs := nfX3) z8 rfl tyX3 dX2_init_38 rfl inX3 tyX3_ok nw_X2_24 nfX3_ok nfX3_sv ⟨Nat.le_of_ble_eq_true rfl, Nat.le_of_ble_eq_true rfl⟩ (fun h9 n9 z9 e9 => ?_)
  have a9 := n9.at he8
  refine ok_dup dX2_init_41 rfl ?_
  refine callN_X3_init dX2_init_42 lk_X2_26 ⟨Nat.le_of_ble_eq_true rfl, Nat.le_of_ble_eq_true rfl, Nat.le_of_ble_eq_true rfl⟩ (Nat.le_of_ble_eq_true rfl) ?_
  refine c_X3_init e9 (fun h10 z10 w10 r10 b10 => ?_)
  have z10' : h10.1 = 13 := by rw [z10, z9]
  rw [z9] at r10 b10
  have a10 := w10.at (by decide) a9
  refine okR_putF dX2_init_45 rfl fl_X2_27 (by assumption) (Nat.le_of_ble_eq_true rfl) (fun _ => ⟨rfl, rfl⟩) set_8_4 (fun h11 hx11 he11 => ?_)
  refine ok_aload_n dX2_init_48 rfl rfl ?_
  have z11 := hx11.1.trans z10'
  have s11 : hw [6] h8 h11 := ((n9.w).tr (w10.mono (C := [6, 11]) (by simp)) (by simp <;> omega)).tr hx11.w (by simp)
  have q11 : Rw h11 11 12 [] := ⟨hx11.at (by decide) r10, _, hx11.at (by decide) b10, fun i hi => by simp at hi⟩
  refine okC_new (B := 14) (ci := 3) (r := (RX3, TX3, 3)) (fs := nfX3) z11 rfl tyX3 dX2_init_49 rfl inX3 tyX3_ok nw_X2_24 nfX3_ok nfX3_sv ⟨Nat.le_of_ble_eq_true rfl, Nat.le_of_ble_eq_true rfl⟩ (fun h12 n12 z12 e12 => ?_)
  have a12 := n12.at he11
  refine ok_dup dX2_init_52 rfl ?_
  refine callN_X3_init dX2_init_53 lk_X2_26 ⟨Nat.le_of_ble_eq_true rfl, Nat.le_of_ble_eq_true rfl, Nat.le_of_ble_eq_true rfl⟩ (Nat.le_of_ble_eq_true rfl) ?_
  refine c_X3_init e12 (fun h13 z13 w13 r13 b13 => ?_)
  have z13' : h13.1 = 15 := by rw [z13, z12]
  rw [z12] at r13 b13
  have a13 := w13.at (by decide) a12
  refine okR_putF dX2_init_56 rfl fl_X2_31 (by assumption) (Nat.le_of_ble_eq_true rfl) (fun _ => ⟨rfl, rfl⟩) set_8_5 (fun h14 hx14 he14 => ?_)
  refine ok_aload_n dX2_init_59 rfl rfl ?_
  refine ok_sipush (v := nI 385) dX2_init_60 (by decide) ?_
  have z14 := hx14.1.trans z13'
  have s14 : hw [6] h11 h14 := ((n12.w).tr (w13.mono (C := [6, 13]) (by simp)) (by simp <;> omega)).tr hx14.w (by simp)
  have q14 : Rw h14 13 14 [] := ⟨hx14.at (by decide) r13, _, hx14.at (by decide) b13, fun i hi => by simp at hi⟩
  refine okC_newJ (B := 16) z14 rfl dX2_init_63 (by decide) ⟨Nat.le_of_ble_eq_true rfl, Nat.le_of_ble_eq_true rfl⟩ (fun h15 n15 z15 e15 => ?_)
  have a15 := n15.at he14
  refine okR_put dX2_init_65 fl_X2_34 (by assumption) (Nat.le_of_ble_eq_true rfl) (fun _ => ⟨rfl, rfl⟩) set_8_6 (fun h16 hx16 he16 => ?_)
  refine ok_aload_n dX2_init_68 rfl rfl ?_
  refine ok_sipush (v := nI 385) dX2_init_69 (by decide) ?_
  have z16 := hx16.1.trans z15
  have s16 : hw [6] h14 h16 := (n15.w).tr hx16.w (by simp)
  refine okC_newJ (B := 17) z16 rfl dX2_init_72 (by decide) ⟨Nat.le_of_ble_eq_true rfl, Nat.le_of_ble_eq_true rfl⟩ (fun h17 n17 z17 e17 => ?_)
  have a17 := n17.at he16
  refine okR_put dX2_init_74 fl_X2_38 (by assumption) (Nat.le_of_ble_eq_true rfl) (fun _ => ⟨rfl, rfl⟩) set_8_7 (fun h18 hx18 he18 => ?_)
  refine ok_iconst (v := nI 0) dX2_init_77 (by decide) ?_
  refine ok_istore_n dX2_init_78 (st_3_1 rfl) (Nat.le_of_ble_eq_true rfl) ?_
  have z18 := hx18.1.trans z17
  have s18 : hw [6] h16 h18 := (n17.w).tr hx18.w (by simp)
  have t16 := s16.tr s18 (by simp)
  have t14 := s14.tr t16 (by simp)
  have t11 := s11.tr t14 (by simp)
  have t8 := s8.tr t11 (by simp)
  have t6 := s6.tr t8 (by simp)
  have t4 := s4.tr t6 (by simp)
  have t0 := s2.tr t4 (by simp)
  have f7 := t4.at (by decide) (hx2.at (by decide) e1)
  have f8 := t6.at (by decide) (hx4.at (by decide) e3)
  have f9 := t8.at (by decide) (hx6.at (by decide) e5)
  have f10 := t11.at (by decide) (hx8.at (by decide) e7)
  have f11 := q11.w t14 (by decide) (by decide)
  have f13 := q14.w t16 (by decide) (by decide)
  have f15 := s18.at (by decide) (hx16.at (by decide) e15)
  have f16 := hx18.at (by decide) e17
  refine ok_widen (uc' := 10) (us' := 1233) (Nat.le_of_ble_eq_true rfl) (Nat.le_of_ble_eq_true rfl) ?_
  refine l_X2_init3 (h := h18) (fun h' x' e6' e7' => ?_) 19 0 h18 _ _ (by omega) hx.rf he18 f7 (fun j hj => by omega) (fun j hj => rfl)
  have zz : h'.1 = 17 := x'.1.trans z18
  refine k h' zz ⟨by rw [zz, z0]; decide, fun q hq hn0 => ?_⟩ ⟨⟨15, 16, Or.inl ⟨rfl, rfl⟩, e6'⟩, e7', ⟨_, x'.at (by decide) f8⟩, ⟨_, x'.at (by decide) f9⟩, ⟨_, x'.at (by decide) f10⟩, ⟨[], okl_nil, f11.at x' (by decide) (by decide)⟩, ⟨[], okl_nil, f13.at x' (by decide) (by decide)⟩, ⟨_, x'.at (by decide) f15⟩, ⟨_, x'.at (by decide) f16⟩⟩
  rw [x'.2 q (by simp <;> omega), t0.2 q hq hn0]

end INIT
