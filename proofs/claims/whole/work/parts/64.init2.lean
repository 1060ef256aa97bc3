/-! ===== the two objects ===== -/
def S0 : ST := (fun _ => false, fun _ => [], 0, 0, fun _ => 0, 0)
section INIT2
variable {g : mG} {h : mH} {Q : Option Value → mH → Prop}
theorem l_X4_init {C : mE} (k : ∀ h', h'.1 = 46 → hw [1] h h' → I1 h' → (∀ p, p < 12 → Rw h' (22 + 2 * p) (23 + 2 * p) []) → Q none h') (z0 : h.1 = 22) :
    ∀ (d p : Nat) (h1 : mH) (F : Nat → Option Nat), p + d = 12 → h1.1 = 22 + 2 * p → hw [1] h h1 → hc h1 0 = some (gho 0 0 0) → hc h1 1 = some (aA RX3 12 F) → (∀ j, j < p → F j = some (22 + 2 * j)) → (∀ j, j < p → Rw h1 (22 + 2 * j) (23 + 2 * j) []) → Ok g MX4_init (m_J g MX4_init Q) 84 [some (.ref 0), some (.int (nI p))] [] h1 (21 + 2 * p) (1751 + 21 * p) := by
  intro d
  induction d with
  | zero =>
    intro p h1 F hp z1 w1 e0 e1 f1 r1
    have ep : p = 12 := by omega
    subst ep
    refine ok_iload_n dX4_init_84 rfl ?_
    refine ok_bipush (v := nI 12) dX4_init_85 (by decide) ?_
    refine okN_icmp_ge (tgt := 109) dX4_init_87 (by decide) (by omega) (by omega) (fun c1 => ?_) (fun c1 => ?_)
    · refine ok_vret dX4_init_109 rfl ⟨by decide, by decide⟩ ?_
      exact k h1 (by rw [z1]) w1 ⟨F, e1, f1⟩ r1
    · exact absurd c1 (by omega)
  | succ d ih =>
    intro p h1 F hp z1 w1 e0 e1 f1 r1
    refine ok_iload_n dX4_init_84 rfl ?_
    refine ok_bipush (v := nI 12) dX4_init_85 (by decide) ?_
    refine okN_icmp_ge (tgt := 109) dX4_init_87 (by decide) (by omega) (by omega) (fun c1 => ?_) (fun c1 => ?_)
    · exact absurd c1 (by omega)
    · refine ok_aload_n dX4_init_90 rfl rfl ?_
      refine ok_get dX4_init_91 fl_X4_11 (by assumption) (by rfl) ?_
      refine ok_iload_n dX4_init_94 rfl ?_
      refine okC_new (B := 23 + 2 * p) (ci := 3) (r := (RX3, TX3, 3)) (fs := nfX3) z1 (by omega) tyX3 dX4_init_95 rfl inX3 tyX3_ok nw_X4_9 nfX3_ok nfX3_sv ⟨by show 21 + 2 * p + 1 ≤ 45; omega, by show 1751 + 21 * p + 3 ≤ 2003; omega⟩ (fun h2 n2 z2 e2 => ?_)
      have e02 := n2.at e0
      have e12 := n2.at e1
      refine ok_dup dX4_init_98 rfl ?_
      refine callN_X3_init dX4_init_99 lk_X4_43 ⟨by decide, by show 21 + 2 * p + 1 + 1 ≤ 45; omega, by show 1751 + 21 * p + 3 + 18 ≤ 2003; omega⟩ (Nat.le_of_ble_eq_true rfl) ?_
      refine c_X3_init e2 (fun h3 z3 w3 r3 b3 => ?_)
      have z3' : h3.1 = 24 + 2 * p := by rw [z3, z2]; omega
      rw [z2] at r3 b3
      have e03 := w3.at (by simp <;> omega) e02
      have e13 := w3.at (by simp <;> omega) e12
      dsimp only [m_push]
      refine okN_aast (r := (RX3, TX3, 3)) (t := 3) (ci := 3) dX4_init_102 rfl rfl e13 r3 c1 (by decide) (fun h4 x4 e14 => ?_)
      refine okN_inc dX4_init_103 rfl (st_2_1 rfl) (Nat.le_of_ble_eq_true rfl) ?_
      refine ok_goto (tgt := 84) dX4_init_106 (by decide) ?_
      have w13 : hw [] h1 h3 := ⟨by rw [z3', z1]; omega, fun q hq _ => by
        rw [w3.2 q (by rw [z2]; omega) (by simp <;> omega), n2.2 q (by omega)]⟩
      refine ok_widen (uc' := 21 + 2 * (p + 1)) (us' := 1751 + 21 * (p + 1)) (by omega) (by show 1751 + 21 * p + 3 + 18 ≤ _; omega) ?_
      refine ih (p + 1) h4 _ (by omega) (by rw [x4.1, z3']; omega) ((w1.tr (w13.mono (C := [1]) (by simp)) (by simp)).tr x4.w (by simp)) (x4.at (by decide) e03) e14 (fun j hj => ?_) (fun j hj => ?_)
      · by_cases z : j = p
        · rw [z, up_eq]
        · rw [up_ne z, f1 j (by omega)]
      · by_cases z : j = p
        · subst z
          exact ⟨x4.at (by simp <;> omega) r3, _, x4.at (by simp <;> omega) b3, fun i hi => by simp at hi⟩
        · exact ((r1 j (by omega)).w w13 (by simp) (by simp)).at x4 (by simp <;> omega) (by simp <;> omega)
theorem c_X4_init (z0 : h.1 = 1) (ea : hc h 0 = some (.inr (4, nfX4))) (k : ∀ h', h'.1 = 46 → IX h' S0 → Q none h') : Ok g MX4_init (m_J g MX4_init Q) 0 [some (.ref 0), none] [] h 0 0 := by
  have ea' : hc h 0 = some (.inr (4, [.null, .null, .null, .null, .null, .null, .null, .null, .int (nI 0), .int (nI 0), .long 0])) := ea
  refine ok_aload_n dX4_init_0 rfl rfl ?_
  refine ok_obj dX4_init_1 ob_X4_3 (Nat.le_of_ble_eq_true rfl) (Nat.le_of_ble_eq_true rfl) ?_
  refine ok_aload_n dX4_init_4 rfl rfl ?_
  refine ok_bipush (v := nI 12) dX4_init_5 (by decide) ?_
  refine okC_newA (B := 2) (t := 3) z0 rfl dX4_init_7 rfl nw_X4_9.1 (fun U hU => hU.1) (by decide) ⟨Nat.le_of_ble_eq_true rfl, Nat.le_of_ble_eq_true rfl⟩ (fun h1 n1 z1 e1 => ?_)
  have a1 := n1.at ea'
  refine okR_putF dX4_init_10 rfl fl_X4_11 (by assumption) (Nat.le_of_ble_eq_true rfl) (fun _ => ⟨rfl, rfl⟩) set_11_0 (fun h2 hx2 he2 => ?_)
  refine ok_aload_n dX4_init_13 rfl rfl ?_
  refine ok_bipush (v := nI 12) dX4_init_14 (by decide) ?_
  have z2 := hx2.1.trans z1
  have s2 : hw [0] h h2 := (n1.w).tr hx2.w (by simp)
  refine okC_newZ (B := 3) z2 rfl dX4_init_16 (by decide) ⟨Nat.le_of_ble_eq_true rfl, Nat.le_of_ble_eq_true rfl⟩ (fun h3 n3 z3 e3 => ?_)
  have a3 := n3.at he2
  refine okR_putF dX4_init_18 rfl fl_X4_15 (by assumption) (Nat.le_of_ble_eq_true rfl) (fun _ => ⟨rfl, rfl⟩) set_11_1 (fun h4 hx4 he4 => ?_)
  refine ok_aload_n dX4_init_21 rfl rfl ?_
  refine ok_bipush (v := nI 6) dX4_init_22 (by decide) ?_
  have z4 := hx4.1.trans z3
  have s4 : hw [0] h2 h4 := (n3.w).tr hx4.w (by simp)
  refine okC_newI (B := 4) z4 rfl dX4_init_24 (by decide) ⟨Nat.le_of_ble_eq_true rfl, Nat.le_of_ble_eq_true rfl⟩ (fun h5 n5 z5 e5 => ?_)
  have a5 := n5.at he4
  refine okR_putF dX4_init_26 rfl fl_X4_19 (by assumption) (Nat.le_of_ble_eq_true rfl) (fun _ => ⟨rfl, rfl⟩) set_11_2 (fun h6 hx6 he6 => ?_)
  refine ok_aload_n dX4_init_29 rfl rfl ?_
  have z6 := hx6.1.trans z5
  have s6 : hw [0] h4 h6 := (n5.w).tr hx6.w (by simp)
  refine okC_new (B := 5) (ci := 1) (r := (RX1, TX1, 1)) (fs := nfX1) z6 rfl tyX1 dX4_init_30 rfl inX1 tyX1_ok nw_X4_23 nfX1_ok nfX1_sv ⟨Nat.le_of_ble_eq_true rfl, Nat.le_of_ble_eq_true rfl⟩ (fun h7 n7 z7 e7 => ?_)
  have a7 := n7.at he6
  refine ok_dup dX4_init_33 rfl ?_
  refine call_X1_init dX4_init_34 lk_X4_25 ⟨Nat.le_of_ble_eq_true rfl, Nat.le_of_ble_eq_true rfl, Nat.le_of_ble_eq_true rfl⟩ (Nat.le_of_ble_eq_true rfl) ?_
  refine c_X1_init e7 (fun h8 z8 w8 L8 => ?_)
  have z8' : h8.1 = 6 := by rw [z8, z7]
  rw [z7] at L8
  have a8 := w8.at (by decide) a7
  refine okR_putF dX4_init_37 rfl fl_X4_26 (by assumption) (Nat.le_of_ble_eq_true rfl) (fun _ => ⟨rfl, rfl⟩) set_11_3 (fun h9 hx9 he9 => ?_)
  refine ok_aload_n dX4_init_40 rfl rfl ?_
  have z9 := hx9.1.trans z8'
  have s9 : hw [0] h6 h9 := ((n7.w).tr (w8.mono (C := [0, 4]) (by simp)) (by simp <;> omega)).tr hx9.w (by simp)
  have L9 := L8.at hx9 (by decide) (by decide)
  refine okC_new (B := 7) (ci := 2) (r := (RX2, TX2, 8)) (fs := nfX2) z9 rfl tyX2 dX4_init_41 rfl inX2 tyX2_ok nw_X4_30 nfX2_ok nfX2_sv ⟨Nat.le_of_ble_eq_true rfl, Nat.le_of_ble_eq_true rfl⟩ (fun h10 n10 z10 e10 => ?_)
  have a10 := n10.at he9
  refine ok_dup dX4_init_44 rfl ?_
  refine call_X2_init dX4_init_45 lk_X4_32 ⟨Nat.le_of_ble_eq_true rfl, Nat.le_of_ble_eq_true rfl, Nat.le_of_ble_eq_true rfl⟩ (Nat.le_of_ble_eq_true rfl) ?_
  refine c_X2_init z10 e10 (fun h11 z11 w11 i11 => ?_)
  have a11 := w11.at (by decide) a10
  refine okR_putF dX4_init_48 rfl fl_X4_33 (by assumption) (Nat.le_of_ble_eq_true rfl) (fun _ => ⟨rfl, rfl⟩) set_11_4 (fun h12 hx12 he12 => ?_)
  refine ok_aload_n dX4_init_51 rfl rfl ?_
  refine ok_bipush (v := nI 76) dX4_init_52 (by decide) ?_
  have z12 := hx12.1.trans z11
  have s12 : hw [0] h9 h12 := ((n10.w).tr (w11.mono (C := [0, 6]) (by simp)) (by simp <;> omega)).tr hx12.w (by simp)
  have i12 := i11.w hx12.w (fun q l1 l2 => by simp <;> omega)
  refine okC_newA (B := 18) (t := 4) z12 rfl dX4_init_54 rfl cc_X4_37 (fun U hU => hU.2.1) (by decide) ⟨Nat.le_of_ble_eq_true rfl, Nat.le_of_ble_eq_true rfl⟩ (fun h13 n13 z13 e13 => ?_)
  have a13 := n13.at he12
  refine okR_putF dX4_init_57 rfl fl_X4_39 (by assumption) (Nat.le_of_ble_eq_true rfl) (fun _ => ⟨rfl, rfl⟩) set_11_5 (fun h14 hx14 he14 => ?_)
  refine ok_aload_n dX4_init_60 rfl rfl ?_
  have z14 := hx14.1.trans z13
  have s14 : hw [0] h12 h14 := (n13.w).tr hx14.w (by simp)
  refine okC_new (B := 19) (ci := 3) (r := (RX3, TX3, 3)) (fs := nfX3) z14 rfl tyX3 dX4_init_61 rfl inX3 tyX3_ok nw_X4_9 nfX3_ok nfX3_sv ⟨Nat.le_of_ble_eq_true rfl, Nat.le_of_ble_eq_true rfl⟩ (fun h15 n15 z15 e15 => ?_)
  have a15 := n15.at he14
  refine ok_dup dX4_init_64 rfl ?_
  refine callN_X3_init dX4_init_65 lk_X4_43 ⟨Nat.le_of_ble_eq_true rfl, Nat.le_of_ble_eq_true rfl, Nat.le_of_ble_eq_true rfl⟩ (Nat.le_of_ble_eq_true rfl) ?_
  refine c_X3_init e15 (fun h16 z16 w16 r16 b16 => ?_)
  have z16' : h16.1 = 20 := by rw [z16, z15]
  rw [z15] at r16 b16
  have a16 := w16.at (by decide) a15
  refine okR_putF dX4_init_68 rfl fl_X4_44 (by assumption) (Nat.le_of_ble_eq_true rfl) (fun _ => ⟨rfl, rfl⟩) set_11_6 (fun h17 hx17 he17 => ?_)
  refine ok_aload_n dX4_init_71 rfl rfl ?_
  have z17 := hx17.1.trans z16'
  have s17 : hw [0] h14 h17 := ((n15.w).tr (w16.mono (C := [0, 18]) (by simp)) (by simp <;> omega)).tr hx17.w (by simp)
  have q17 : Rw h17 18 19 [] := ⟨hx17.at (by decide) r16, _, hx17.at (by decide) b16, fun i hi => by simp at hi⟩
  refine okC_new (B := 21) (ci := 3) (r := (RX3, TX3, 3)) (fs := nfX3) z17 rfl tyX3 dX4_init_72 rfl inX3 tyX3_ok nw_X4_9 nfX3_ok nfX3_sv ⟨Nat.le_of_ble_eq_true rfl, Nat.le_of_ble_eq_true rfl⟩ (fun h18 n18 z18 e18 => ?_)
  have a18 := n18.at he17
  refine ok_dup dX4_init_75 rfl ?_
  refine callN_X3_init dX4_init_76 lk_X4_43 ⟨Nat.le_of_ble_eq_true rfl, Nat.le_of_ble_eq_true rfl, Nat.le_of_ble_eq_true rfl⟩ (Nat.le_of_ble_eq_true rfl) ?_
  refine c_X3_init e18 (fun h19 z19 w19 r19 b19 => ?_)
  have z19' : h19.1 = 22 := by rw [z19, z18]
  rw [z18] at r19 b19
  have a19 := w19.at (by decide) a18
  refine okR_putF dX4_init_79 rfl fl_X4_48 (by assumption) (Nat.le_of_ble_eq_true rfl) (fun _ => ⟨rfl, rfl⟩) set_11_7 (fun h20 hx20 he20 => ?_)
  refine ok_iconst (v := nI 0) dX4_init_82 (by decide) ?_
  refine ok_istore_n dX4_init_83 (st_2_1 rfl) (Nat.le_of_ble_eq_true rfl) ?_
  have z20 := hx20.1.trans z19'
  have s20 : hw [0] h17 h20 := ((n18.w).tr (w19.mono (C := [0, 20]) (by simp)) (by simp <;> omega)).tr hx20.w (by simp)
  have q20 : Rw h20 20 21 [] := ⟨hx20.at (by decide) r19, _, hx20.at (by decide) b19, fun i hi => by simp at hi⟩
  have t17 := s20
  have t14 := s17.tr t17 (by simp)
  have t12 := s14.tr t14 (by simp)
  have t9 := s12.tr t12 (by simp)
  have t6 := s9.tr t9 (by simp)
  have t4 := s6.tr t6 (by simp)
  have t2 := s4.tr t4 (by simp)
  have f1 := t2.at (by decide) (hx2.at (by decide) e1)
  have f2 := t4.at (by decide) (hx4.at (by decide) e3)
  have f3 := t6.at (by decide) (hx6.at (by decide) e5)
  have f4 := L9.w t9 (by decide) (by decide)
  have f5 := i12.w t12 (fun q l1 l2 => by simp <;> omega)
  have f17 := t14.at (by decide) (hx14.at (by decide) e13)
  have f18 := q17.w t17 (by decide) (by decide)
  refine ok_widen (uc' := 21 + 2 * 0) (us' := 1751 + 21 * 0) (Nat.le_of_ble_eq_true rfl) (Nat.le_of_ble_eq_true rfl) ?_
  refine l_X4_init (h := h20) (C := aI 0 (fun _ => 0)) (fun h' zz w' i1 rr => ?_) z20 12 0 h20 _ (by omega) (by rw [z20]) hw.rf he20 f1 (fun j hj => by omega) (fun j hj => by omega)
  refine k h' zz ⟨w'.at (by decide) he20, by decide, i1, ⟨_, w'.at (by decide) f2, fun p hp => rfl⟩, ⟨_, w'.at (by decide) f3, fun p hp => rfl⟩, f4.w w' (by decide) (by decide), f5.w w' (fun q l1 l2 => by simp <;> omega), ⟨_, w'.at (by decide) f17, fun s hs => Or.inl rfl⟩, ⟨[], okl_nil, f18.w w' (by decide) (by decide)⟩, ⟨[], okl_nil, q20.w w' (by decide) (by decide)⟩, fun p hp => ⟨[], okl_nil, rr p hp, fun _ => rfl⟩⟩

theorem l_X5_init (k : ∀ h', hx [48] h h' → K48 h' S0.1 S0.2.1 → Q none h') :
    ∀ (d p : Nat) (h1 : mH) (F : Nat → Int32), p + d = 12 → hx [48] h h1 → hc h1 46 = some (mdo 0 0 0 0 (-9) 0 (nI 0)) → hc h1 48 = some (aK 12 F) → (∀ j, j < p → F j = -9) → Ok g MX5_init (m_J g MX5_init Q) 158 [some (.ref 46), some (.int (nI p))] [] h1 17 10336 := by
  intro d
  induction d with
  | zero =>
    intro p h1 F hp x1 e0 e8 f
    have ep : p = 12 := by omega
    subst ep
    refine ok_iload_n dX5_init_158 rfl ?_
    refine ok_bipush (v := nI 12) dX5_init_159 (by decide) ?_
    refine okN_icmp_ge (tgt := 178) dX5_init_161 (by decide) (by omega) (by omega) (fun c1 => ?_) (fun c1 => ?_)
    · refine ok_vret dX5_init_178 rfl ⟨Nat.le_of_ble_eq_true rfl, Nat.le_of_ble_eq_true rfl⟩ ?_
      exact k h1 x1 ⟨F, e8, fun p hp => by rw [f p hp]; rfl⟩
    · exact absurd c1 (by omega)
  | succ d ih =>
    intro p h1 F hp x1 e0 e8 f
    refine ok_iload_n dX5_init_158 rfl ?_
    refine ok_bipush (v := nI 12) dX5_init_159 (by decide) ?_
    refine okN_icmp_ge (tgt := 178) dX5_init_161 (by decide) (by omega) (by omega) (fun c1 => ?_) (fun c1 => ?_)
    · exact absurd c1 (by omega)
    · refine ok_aload_n dX5_init_164 rfl rfl ?_
      refine ok_get dX5_init_165 fl_X5_13 (by assumption) (by rfl) ?_
      refine ok_iload_n dX5_init_168 rfl ?_
      refine ok_bipush (v := -9) dX5_init_169 (by decide) ?_
      first | refine okN_iast dX5_init_171 (by assumption) (by omega) (by decide) (fun h2 hx2 he2 => ?_) | refine okC_iast dX5_init_171 (by assumption) (by omega) (by omega) (by omega) (fun h2 hx2 he2 => ?_) | refine okF_iast dX5_init_171 (by assumption) (by omega) (by omega) (fun h2 hx2 he2 => ?_) | refine okN_kast dX5_init_171 (by assumption) (by omega) (by decide) (fun h2 hx2 he2 => ?_)
      refine okN_inc dX5_init_172 rfl (st_2_1 rfl) (Nat.le_of_ble_eq_true rfl) ?_
      refine ok_goto (tgt := 158) dX5_init_175 (by decide) ?_
      refine ih (p + 1) h2 _ (by omega) (x1.tr' hx2) (hx2.at (by decide) e0) he2 (fun j hj => ?_)
      by_cases z : j = p
      · rw [z, up_eq]
      · rw [up_ne z, f j (by omega)]
theorem c_X5_init (z0 : h.1 = 47) (ea : hc h 46 = some (.inr (5, nfX5))) (k : ∀ h', h'.1 = 64 → hw [46] h h' → IM h' S0 → Q none h') : Ok g MX5_init (m_J g MX5_init Q) 0 [some (.ref 46), none] [] h 0 0 := by
  have a0 : hc h 46 = some (.inr (5, [.int (nI 0), .null, .long 0, .int (nI 0), .null, .null, .null, .null, .int (nI 0), .int (nI 0), .int (nI 0), .null, .null, .null, .null, .null, .null, .null, .null, .null, .null, .null, .int (nI 0), .null])) := ea
  refine ok_aload_n dX5_init_0 rfl rfl ?_
  refine ok_obj dX5_init_1 ob_X5_1 (Nat.le_of_ble_eq_true rfl) (Nat.le_of_ble_eq_true rfl) ?_
  refine ok_aload_n dX5_init_4 rfl rfl ?_
  refine ok_bipush (v := nI 6) dX5_init_5 (by decide) ?_
  refine okC_newI (B := 48) z0 rfl dX5_init_7 (by decide) ⟨Nat.le_of_ble_eq_true rfl, Nat.le_of_ble_eq_true rfl⟩ (fun h1 n1 z1 e1 => ?_)
  have a1 := n1.at a0
  refine okR_putF dX5_init_9 rfl fl_X5_7 (by assumption) (Nat.le_of_ble_eq_true rfl) (fun _ => ⟨rfl, rfl⟩) set_24_1 (fun h2 hx2 he2 => ?_)
  have z2 := hx2.1.trans z1
  have s2 : hw [46] h h2 := (n1.w).tr hx2.w (by simp)
  have f47 := hx2.at (by decide) e1
  refine ok_aload_n dX5_init_12 rfl rfl ?_
  refine ok_bipush (v := nI 12) dX5_init_13 (by decide) ?_
  refine okC_newI (B := 49) z2 rfl dX5_init_15 (by decide) ⟨Nat.le_of_ble_eq_true rfl, Nat.le_of_ble_eq_true rfl⟩ (fun h3 n3 z3 e3 => ?_)
  have a3 := n3.at he2
  refine okR_putF dX5_init_17 rfl fl_X5_13 (by assumption) (Nat.le_of_ble_eq_true rfl) (fun _ => ⟨rfl, rfl⟩) set_24_4 (fun h4 hx4 he4 => ?_)
  have z4 := hx4.1.trans z3
  have s4 : hw [46] h2 h4 := (n3.w).tr hx4.w (by simp)
  have f48 := hx4.at (by decide) e3
  refine ok_aload_n dX5_init_20 rfl rfl ?_
  refine ok_sipush (v := nI 216) dX5_init_21 (by decide) ?_
  refine okC_newI (B := 50) z4 rfl dX5_init_24 (by decide) ⟨Nat.le_of_ble_eq_true rfl, Nat.le_of_ble_eq_true rfl⟩ (fun h5 n5 z5 e5 => ?_)
  have a5 := n5.at he4
  refine okR_putF dX5_init_26 rfl fl_X5_16 (by assumption) (Nat.le_of_ble_eq_true rfl) (fun _ => ⟨rfl, rfl⟩) set_24_5 (fun h6 hx6 he6 => ?_)
  have z6 := hx6.1.trans z5
  have s6 : hw [46] h4 h6 := (n5.w).tr hx6.w (by simp)
  have f49 := hx6.at (by decide) e5
  refine ok_aload_n dX5_init_29 rfl rfl ?_
  refine ok_bipush (v := nI 18) dX5_init_30 (by decide) ?_
  refine okC_newI (B := 51) z6 rfl dX5_init_32 (by decide) ⟨Nat.le_of_ble_eq_true rfl, Nat.le_of_ble_eq_true rfl⟩ (fun h7 n7 z7 e7 => ?_)
  have a7 := n7.at he6
  refine okR_putF dX5_init_34 rfl fl_X5_19 (by assumption) (Nat.le_of_ble_eq_true rfl) (fun _ => ⟨rfl, rfl⟩) set_24_6 (fun h8 hx8 he8 => ?_)
  have z8 := hx8.1.trans z7
  have s8 : hw [46] h6 h8 := (n7.w).tr hx8.w (by simp)
  have f50 := hx8.at (by decide) e7
  refine ok_aload_n dX5_init_37 rfl rfl ?_
  refine ok_bipush (v := nI 20) dX5_init_38 (by decide) ?_
  refine okC_newI (B := 52) z8 rfl dX5_init_40 (by decide) ⟨Nat.le_of_ble_eq_true rfl, Nat.le_of_ble_eq_true rfl⟩ (fun h9 n9 z9 e9 => ?_)
  have a9 := n9.at he8
  refine okR_putF dX5_init_42 rfl fl_X5_22 (by assumption) (Nat.le_of_ble_eq_true rfl) (fun _ => ⟨rfl, rfl⟩) set_24_7 (fun h10 hx10 he10 => ?_)
  have z10 := hx10.1.trans z9
  have s10 : hw [46] h8 h10 := (n9.w).tr hx10.w (by simp)
  have f51 := hx10.at (by decide) e9
  refine ok_aload_n dX5_init_45 rfl rfl ?_
  refine ok_bipush (v := -9) dX5_init_46 (by decide) ?_
  refine okR_put dX5_init_48 fl_X5_25 (by assumption) (Nat.le_of_ble_eq_true rfl) (fun _ => ⟨rfl, rfl⟩) set_24_9 (fun h11 hx11 he11 => ?_)
  have z11 := hx11.1.trans z10
  have s11 : hw [46] h10 h11 := hx11.w
  refine ok_aload_n dX5_init_51 rfl rfl ?_
  refine ok_sipush (v := nI 6930) dX5_init_52 (by decide) ?_
  refine okC_newI (B := 53) z11 rfl dX5_init_55 (by decide) ⟨Nat.le_of_ble_eq_true rfl, Nat.le_of_ble_eq_true rfl⟩ (fun h12 n12 z12 e12 => ?_)
  have a12 := n12.at he11
  refine okR_putF dX5_init_57 rfl fl_X5_29 (by assumption) (Nat.le_of_ble_eq_true rfl) (fun _ => ⟨rfl, rfl⟩) set_24_11 (fun h13 hx13 he13 => ?_)
  have z13 := hx13.1.trans z12
  have s13 : hw [46] h11 h13 := (n12.w).tr hx13.w (by simp)
  have f52 := hx13.at (by decide) e12
  refine ok_aload_n dX5_init_60 rfl rfl ?_
  refine ok_sipush (v := nI 385) dX5_init_61 (by decide) ?_
  refine okC_newI (B := 54) z13 rfl dX5_init_64 (by decide) ⟨Nat.le_of_ble_eq_true rfl, Nat.le_of_ble_eq_true rfl⟩ (fun h14 n14 z14 e14 => ?_)
  have a14 := n14.at he13
  refine okR_putF dX5_init_66 rfl fl_X5_32 (by assumption) (Nat.le_of_ble_eq_true rfl) (fun _ => ⟨rfl, rfl⟩) set_24_12 (fun h15 hx15 he15 => ?_)
  have z15 := hx15.1.trans z14
  have s15 : hw [46] h13 h15 := (n14.w).tr hx15.w (by simp)
  have f53 := hx15.at (by decide) e14
  refine ok_aload_n dX5_init_69 rfl rfl ?_
  refine ok_sipush (v := nI 385) dX5_init_70 (by decide) ?_
  refine okC_newI (B := 55) z15 rfl dX5_init_73 (by decide) ⟨Nat.le_of_ble_eq_true rfl, Nat.le_of_ble_eq_true rfl⟩ (fun h16 n16 z16 e16 => ?_)
  have a16 := n16.at he15
  refine okR_putF dX5_init_75 rfl fl_X5_35 (by assumption) (Nat.le_of_ble_eq_true rfl) (fun _ => ⟨rfl, rfl⟩) set_24_13 (fun h17 hx17 he17 => ?_)
  have z17 := hx17.1.trans z16
  have s17 : hw [46] h15 h17 := (n16.w).tr hx17.w (by simp)
  have f54 := hx17.at (by decide) e16
  refine ok_aload_n dX5_init_78 rfl rfl ?_
  refine ok_sipush (v := nI 385) dX5_init_79 (by decide) ?_
  refine okC_newI (B := 56) z17 rfl dX5_init_82 (by decide) ⟨Nat.le_of_ble_eq_true rfl, Nat.le_of_ble_eq_true rfl⟩ (fun h18 n18 z18 e18 => ?_)
  have a18 := n18.at he17
  refine okR_putF dX5_init_84 rfl fl_X5_38 (by assumption) (Nat.le_of_ble_eq_true rfl) (fun _ => ⟨rfl, rfl⟩) set_24_14 (fun h19 hx19 he19 => ?_)
  have z19 := hx19.1.trans z18
  have s19 : hw [46] h17 h19 := (n18.w).tr hx19.w (by simp)
  have f55 := hx19.at (by decide) e18
  refine ok_aload_n dX5_init_87 rfl rfl ?_
  refine ok_sipush (v := nI 385) dX5_init_88 (by decide) ?_
  refine okC_newI (B := 57) z19 rfl dX5_init_91 (by decide) ⟨Nat.le_of_ble_eq_true rfl, Nat.le_of_ble_eq_true rfl⟩ (fun h20 n20 z20 e20 => ?_)
  have a20 := n20.at he19
  refine okR_putF dX5_init_93 rfl fl_X5_41 (by assumption) (Nat.le_of_ble_eq_true rfl) (fun _ => ⟨rfl, rfl⟩) set_24_15 (fun h21 hx21 he21 => ?_)
  have z21 := hx21.1.trans z20
  have s21 : hw [46] h19 h21 := (n20.w).tr hx21.w (by simp)
  have f56 := hx21.at (by decide) e20
  refine ok_aload_n dX5_init_96 rfl rfl ?_
  refine ok_sipush (v := nI 385) dX5_init_97 (by decide) ?_
  refine okC_newI (B := 58) z21 rfl dX5_init_100 (by decide) ⟨Nat.le_of_ble_eq_true rfl, Nat.le_of_ble_eq_true rfl⟩ (fun h22 n22 z22 e22 => ?_)
  have a22 := n22.at he21
  refine okR_putF dX5_init_102 rfl fl_X5_44 (by assumption) (Nat.le_of_ble_eq_true rfl) (fun _ => ⟨rfl, rfl⟩) set_24_16 (fun h23 hx23 he23 => ?_)
  have z23 := hx23.1.trans z22
  have s23 : hw [46] h21 h23 := (n22.w).tr hx23.w (by simp)
  have f57 := hx23.at (by decide) e22
  refine ok_aload_n dX5_init_105 rfl rfl ?_
  refine ok_sipush (v := nI 385) dX5_init_106 (by decide) ?_
  refine okC_newI (B := 59) z23 rfl dX5_init_109 (by decide) ⟨Nat.le_of_ble_eq_true rfl, Nat.le_of_ble_eq_true rfl⟩ (fun h24 n24 z24 e24 => ?_)
  have a24 := n24.at he23
  refine okR_putF dX5_init_111 rfl fl_X5_47 (by assumption) (Nat.le_of_ble_eq_true rfl) (fun _ => ⟨rfl, rfl⟩) set_24_17 (fun h25 hx25 he25 => ?_)
  have z25 := hx25.1.trans z24
  have s25 : hw [46] h23 h25 := (n24.w).tr hx25.w (by simp)
  have f58 := hx25.at (by decide) e24
  refine ok_aload_n dX5_init_114 rfl rfl ?_
  refine ok_sipush (v := nI 385) dX5_init_115 (by decide) ?_
  refine okC_newJ (B := 60) z25 rfl dX5_init_118 (by decide) ⟨Nat.le_of_ble_eq_true rfl, Nat.le_of_ble_eq_true rfl⟩ (fun h26 n26 z26 e26 => ?_)
  have a26 := n26.at he25
  refine okR_putF dX5_init_120 rfl fl_X5_50 (by assumption) (Nat.le_of_ble_eq_true rfl) (fun _ => ⟨rfl, rfl⟩) set_24_18 (fun h27 hx27 he27 => ?_)
  have z27 := hx27.1.trans z26
  have s27 : hw [46] h25 h27 := (n26.w).tr hx27.w (by simp)
  have f59 := hx27.at (by decide) e26
  refine ok_aload_n dX5_init_123 rfl rfl ?_
  refine ok_bipush (v := nI 18) dX5_init_124 (by decide) ?_
  refine okC_newI (B := 61) z27 rfl dX5_init_126 (by decide) ⟨Nat.le_of_ble_eq_true rfl, Nat.le_of_ble_eq_true rfl⟩ (fun h28 n28 z28 e28 => ?_)
  have a28 := n28.at he27
  refine okR_putF dX5_init_128 rfl fl_X5_54 (by assumption) (Nat.le_of_ble_eq_true rfl) (fun _ => ⟨rfl, rfl⟩) set_24_19 (fun h29 hx29 he29 => ?_)
  have z29 := hx29.1.trans z28
  have s29 : hw [46] h27 h29 := (n28.w).tr hx29.w (by simp)
  have f60 := hx29.at (by decide) e28
  refine ok_aload_n dX5_init_131 rfl rfl ?_
  refine ok_bipush (v := nI 18) dX5_init_132 (by decide) ?_
  refine okC_newI (B := 62) z29 rfl dX5_init_134 (by decide) ⟨Nat.le_of_ble_eq_true rfl, Nat.le_of_ble_eq_true rfl⟩ (fun h30 n30 z30 e30 => ?_)
  have a30 := n30.at he29
  refine okR_putF dX5_init_136 rfl fl_X5_57 (by assumption) (Nat.le_of_ble_eq_true rfl) (fun _ => ⟨rfl, rfl⟩) set_24_20 (fun h31 hx31 he31 => ?_)
  have z31 := hx31.1.trans z30
  have s31 : hw [46] h29 h31 := (n30.w).tr hx31.w (by simp)
  have f61 := hx31.at (by decide) e30
  refine ok_aload_n dX5_init_139 rfl rfl ?_
  refine ok_bipush (v := nI 18) dX5_init_140 (by decide) ?_
  refine okC_newI (B := 63) z31 rfl dX5_init_142 (by decide) ⟨Nat.le_of_ble_eq_true rfl, Nat.le_of_ble_eq_true rfl⟩ (fun h32 n32 z32 e32 => ?_)
  have a32 := n32.at he31
  refine okR_putF dX5_init_144 rfl fl_X5_60 (by assumption) (Nat.le_of_ble_eq_true rfl) (fun _ => ⟨rfl, rfl⟩) set_24_21 (fun h33 hx33 he33 => ?_)
  have z33 := hx33.1.trans z32
  have s33 : hw [46] h31 h33 := (n32.w).tr hx33.w (by simp)
  have f62 := hx33.at (by decide) e32
  refine ok_aload_n dX5_init_147 rfl rfl ?_
  refine ok_sipush (v := nI 385) dX5_init_148 (by decide) ?_
  refine okC_newJ (B := 64) z33 rfl dX5_init_151 (by decide) ⟨Nat.le_of_ble_eq_true rfl, Nat.le_of_ble_eq_true rfl⟩ (fun h34 n34 z34 e34 => ?_)
  have a34 := n34.at he33
  refine okR_putF dX5_init_153 rfl fl_X5_63 (by assumption) (Nat.le_of_ble_eq_true rfl) (fun _ => ⟨rfl, rfl⟩) set_24_23 (fun h35 hx35 he35 => ?_)
  have z35 := hx35.1.trans z34
  have s35 : hw [46] h33 h35 := (n34.w).tr hx35.w (by simp)
  have f63 := hx35.at (by decide) e34
  refine ok_iconst (v := nI 0) dX5_init_156 (by decide) ?_
  refine ok_istore_n dX5_init_157 (st_2_1 rfl) (Nat.le_of_ble_eq_true rfl) ?_
  have t35 : hw [46] h35 h35 := hw.rf
  have t33 := s35.tr t35 (by simp)
  have t31 := s33.tr t33 (by simp)
  have t29 := s31.tr t31 (by simp)
  have t27 := s29.tr t29 (by simp)
  have t25 := s27.tr t27 (by simp)
  have t23 := s25.tr t25 (by simp)
  have t21 := s23.tr t23 (by simp)
  have t19 := s21.tr t21 (by simp)
  have t17 := s19.tr t19 (by simp)
  have t15 := s17.tr t17 (by simp)
  have t13 := s15.tr t15 (by simp)
  have t11 := s13.tr t13 (by simp)
  have t10 := s11.tr t11 (by simp)
  have t8 := s10.tr t10 (by simp)
  have t6 := s8.tr t8 (by simp)
  have t4 := s6.tr t6 (by simp)
  have t2 := s4.tr t4 (by simp)
  have t0 := s2.tr t2 (by simp)
  have g47 := t2.at (by decide) f47
  have g48 := t4.at (by decide) f48
  have g49 := t6.at (by decide) f49
  have g50 := t8.at (by decide) f50
  have g51 := t10.at (by decide) f51
  have g52 := t13.at (by decide) f52
  have g53 := t15.at (by decide) f53
  have g54 := t17.at (by decide) f54
  have g55 := t19.at (by decide) f55
  have g56 := t21.at (by decide) f56
  have g57 := t23.at (by decide) f57
  have g58 := t25.at (by decide) f58
  have g59 := t27.at (by decide) f59
  have g60 := t29.at (by decide) f60
  have g61 := t31.at (by decide) f61
  have g62 := t33.at (by decide) f62
  have g63 := t35.at (by decide) f63
  have g48' : hc h35 48 = some (aK 12 (fun _ => nI 0)) := g48
  refine ok_widen (uc' := 17) (us' := 10336) (Nat.le_of_ble_eq_true rfl) (Nat.le_of_ble_eq_true rfl) ?_
  refine l_X5_init (h := h35) (fun h' x' k8 => ?_) 12 0 h35 _ (by omega) hx.rf he35 g48' (fun j hj => by omega)
  have zz : h'.1 = 64 := x'.1.trans z35
  refine k h' zz ⟨by rw [zz, z0]; decide, fun q hq hn0 => ?_⟩ ⟨0, -9, 0, nI 0, x'.at (by decide) he35, ⟨_, x'.at (by decide) g47, fun f hf => rfl⟩, k8, ⟨_, x'.at (by decide) g49, fun p hp ht => by cases ht⟩, ⟨_, _, x'.at (by decide) g52, x'.at (by decide) g53, Or.inl rfl⟩, ⟨⟨_, x'.at (by decide) g50⟩, ⟨_, x'.at (by decide) g51⟩, fun a l1 l2 => ?_, ⟨_, x'.at (by decide) g59⟩, fun a l1 l2 => ?_, ⟨_, x'.at (by decide) g63⟩⟩, (fun p hp ht => by cases ht), by decide⟩
  · rw [x'.2 q (by simp <;> omega), t0.2 q hq hn0]
  · rcases (show a = 54 ∨ a = 55 ∨ a = 56 ∨ a = 57 ∨ a = 58 by omega) with rfl | rfl | rfl | rfl | rfl
    · exact ⟨_, x'.at (by decide) g54⟩
    · exact ⟨_, x'.at (by decide) g55⟩
    · exact ⟨_, x'.at (by decide) g56⟩
    · exact ⟨_, x'.at (by decide) g57⟩
    · exact ⟨_, x'.at (by decide) g58⟩
  · rcases (show a = 60 ∨ a = 61 ∨ a = 62 by omega) with rfl | rfl | rfl
    · exact ⟨_, x'.at (by decide) g60⟩
    · exact ⟨_, x'.at (by decide) g61⟩
    · exact ⟨_, x'.at (by decide) g62⟩
end INIT2
