/-! ===== the second program's copy ===== -/
section MCOPY
variable {g : mG} {h : mH} {Q : Option Value → mH → Prop} {S : ST} {sz lz : Nat} {li kd : Int32}
theorem l_X5_copy1 {a x m : Nat} {to : Int32} (I : MI h S sz li lz kd) (ha : a < 12) (ht : S.1 a = true) (hxm : x + m ≤ (S.2.1 a).length)
    (k : ∀ h' M, hx [50] h h' → MI h' S sz li lz kd → hc h' 50 = some (aI 18 M) → (∀ y, y < m → M y = (S.2.1 a).getD (x + y) 0) → Ok g MX5_copy (m_J g MX5_copy Q) 129 [some (.ref 46), some (.int (nI a)), some (.int (nI x)), some (.int (nI m)), some (.int to), some (.int (nI (tsum (S.2.1 a) (x + m) - tsum (S.2.1 a) x))), some (.int (nI m))] [] h' 0 0) :
    ∀ (d i : Nat) (h1 : mH) (M : Nat → Nat), i + d = m → hx [50] h h1 → MI h1 S sz li lz kd → hc h1 50 = some (aI 18 M) → (∀ y, y < i → M y = (S.2.1 a).getD (x + y) 0) → tsum (S.2.1 a) x ≤ tsum (S.2.1 a) (x + i) →
    Ok g MX5_copy (m_J g MX5_copy Q) 84 [some (.ref 46), some (.int (nI a)), some (.int (nI x)), some (.int (nI m)), some (.int to), some (.int (nI (tsum (S.2.1 a) (x + i) - tsum (S.2.1 a) x))), some (.int (nI i))] [] h1 0 0 := by
  have hlen := (I.2.2.2.2.2.2.1 a ha ht).len
  intro d
  induction d with
  | zero =>
    intro i h1 M hi x1 I1 e5 f ts
    have ei : i = m := by omega
    subst ei
    refine ok_iload dX5_copy_84 rfl ?_
    refine ok_iload_n dX5_copy_86 rfl ?_
    refine okN_icmp_ge (tgt := 129) dX5_copy_87 (by decide) (by omega) (by omega) (fun c1 => ?_) (fun c1 => ?_)
    · exact k h1 M x1 I1 e5 f
    · exact absurd c1 (by omega)
  | succ d ih =>
    intro i h1 M hi x1 I1 e5 f ts
    obtain ⟨e0, -, -, ⟨G, e2, g2⟩, -⟩ := id I1
    have t1 := tsum_succ (S.2.1 a) (x + i) (by omega)
    refine ok_iload dX5_copy_84 rfl ?_
    refine ok_iload_n dX5_copy_86 rfl ?_
    refine okN_icmp_ge (tgt := 129) dX5_copy_87 (by decide) (by omega) (by omega) (fun c1 => ?_) (fun c1 => ?_)
    · exact absurd c1 (by omega)
    · refine ok_aload_n dX5_copy_90 rfl rfl ?_
      refine ok_get dX5_copy_91 fl_X5_19 (by assumption) (by rfl) ?_
      refine ok_iload dX5_copy_94 rfl ?_
      refine ok_aload_n dX5_copy_96 rfl rfl ?_
      refine ok_get dX5_copy_97 fl_X5_16 (by assumption) (by rfl) ?_
      refine ok_bipush (v := nI 18) dX5_copy_100 (by decide) ?_
      refine ok_iload_n dX5_copy_102 rfl ?_
      first | refine okN_imul dX5_copy_103 ?_ | refine ok_imul dX5_copy_103 ?_
      refine ok_iload_n dX5_copy_104 rfl ?_
      first | refine okN_iadd dX5_copy_105 ?_ | refine ok_iadd dX5_copy_105 ?_
      refine ok_iload dX5_copy_106 rfl ?_
      first | refine okN_iadd dX5_copy_108 ?_ | refine ok_iadd dX5_copy_108 ?_
      first | refine okN_iald dX5_copy_109 (by assumption) (by omega) (by decide) ?_ | refine okF_iald dX5_copy_109 (by assumption) (by omega) (by omega) ?_ | refine okN_kald dX5_copy_109 (by assumption) (by omega) (by decide) ?_
      rw [Nat.add_assoc (18 * a) x i, g2 a ha ht (x + i) (by omega)]
      first | refine okN_iast dX5_copy_110 (by assumption) (by omega) (by decide) (fun h2 hx2 he2 => ?_) | refine okC_iast dX5_copy_110 (by assumption) (by omega) (by omega) (by omega) (fun h2 hx2 he2 => ?_) | refine okF_iast dX5_copy_110 (by assumption) (by omega) (by omega) (fun h2 hx2 he2 => ?_) | refine okN_kast dX5_copy_110 (by assumption) (by omega) (by decide) (fun h2 hx2 he2 => ?_)
      have I2 := I1.set50 hx2 ⟨_, he2⟩
      have e02 := I2.1
      refine ok_iload dX5_copy_111 rfl ?_
      refine ok_aload_n dX5_copy_113 rfl rfl ?_
      refine ok_get dX5_copy_114 fl_X5_19 (by assumption) (by rfl) ?_
      refine ok_iload dX5_copy_117 rfl ?_
      first | refine okN_iald dX5_copy_119 (by assumption) (by omega) (by decide) ?_ | refine okF_iald dX5_copy_119 (by assumption) (by omega) (by omega) ?_ | refine okN_kald dX5_copy_119 (by assumption) (by omega) (by decide) ?_
      rw [up_eq]
      first | refine okN_iadd dX5_copy_120 ?_ | refine ok_iadd dX5_copy_120 ?_
      refine ok_istore dX5_copy_121 (st_7_5 rfl) (Nat.le_of_ble_eq_true rfl) ?_
      refine okN_inc dX5_copy_123 rfl (st_7_6 rfl) (Nat.le_of_ble_eq_true rfl) ?_
      refine ok_goto (tgt := 84) dX5_copy_126 (by decide) ?_
      rw [show tsum (S.2.1 a) (x + i) - tsum (S.2.1 a) x + (S.2.1 a).getD (x + i) 0 = tsum (S.2.1 a) (x + (i + 1)) - tsum (S.2.1 a) x by rw [← Nat.add_assoc]; omega]
      refine ih (i + 1) h2 _ (by omega) (x1.tr' hx2) I2 he2 (fun y hy => ?_) (by rw [← Nat.add_assoc]; omega)
      by_cases c : y = i
      · rw [c, up_eq]
      · rw [up_ne c, f y (by omega)]
theorem l_X5_copy2 {a b x m : Nat} {p v2 v5 : Int32} {M : Nat → Nat} (ola : okl (S.2.1 a)) (olb : okl (S.2.1 b)) (hb : b < 12) (ht : S.1 b = true) (hxm : x + m ≤ (S.2.1 a).length) (hM : ∀ y, y < m → M y = (S.2.1 a).getD (x + y) 0) (hok : ∀ y, y ≤ m → okl (ppN (S.2.1 a) x (S.2.1 b) y))
    (k : ∀ h', hx [48, 49] h h' → MI h' (s_P S b (ppN (S.2.1 a) x (S.2.1 b) m)) sz li lz kd → Q (some (.int (nI ((S.2.1 b).length + m)))) h') :
    ∀ (d i : Nat) (h1 : mH), i + d = m → hx [48, 49] h h1 → MI h1 (s_P S b (ppN (S.2.1 a) x (S.2.1 b) i)) sz li lz kd → hc h1 50 = some (aI 18 M) →
    Ok g MX5_copy (m_J g MX5_copy Q) 149 [some (.ref 46), some (.int p), some (.int v2), some (.int (nI m)), some (.int (nI b)), some (.int v5), some (.int (nI i))] [] h1 0 0 := by
  have hlen := ola.len
  intro d
  induction d with
  | zero =>
    intro i h1 hi x1 I1 e5
    have ei : i = m := by omega
    subst ei
    obtain ⟨e0, -, ⟨F, e1, f1⟩, -⟩ := id I1
    refine ok_iload dX5_copy_149 rfl ?_
    refine ok_iload_n dX5_copy_151 rfl ?_
    refine okN_icmp_ge (tgt := 174) dX5_copy_152 (by decide) (by omega) (by omega) (fun c1 => ?_) (fun c1 => ?_)
    · refine ok_aload_n dX5_copy_174 rfl rfl ?_
      refine ok_get dX5_copy_175 fl_X5_13 (by assumption) (by rfl) ?_
      refine ok_iload dX5_copy_178 rfl ?_
      first | refine okN_iald dX5_copy_180 (by assumption) (by omega) (by decide) ?_ | refine okF_iald dX5_copy_180 (by assumption) (by omega) (by omega) ?_ | refine okN_kald dX5_copy_180 (by assumption) (by omega) (by decide) ?_
      rw [f1 b hb, if_pos (show (s_P S b (ppN (S.2.1 a) x (S.2.1 b) i)).1 b = true from ht)]
      rw [show ((s_P S b (ppN (S.2.1 a) x (S.2.1 b) i)).2.1 b).length = (S.2.1 b).length + i by show (up S.2.1 b _ b).length = _; rw [up_eq, ppN_len]]
      refine ok_iret dX5_copy_181 rfl rfl ⟨Nat.le_of_ble_eq_true rfl, Nat.le_of_ble_eq_true rfl⟩ ?_
      exact k h1 x1 I1
    · exact absurd c1 (by omega)
  | succ d ih =>
    intro i h1 hi x1 I1 e5
    have e0 := I1.1
    have hp := ola.2.1 _ (gd_mem (S.2.1 a) (x + i) (by omega))
    have o1 := hok (i + 1) (by omega)
    have up1 : (s_P S b (ppN (S.2.1 a) x (S.2.1 b) i)).2.1 b = ppN (S.2.1 a) x (S.2.1 b) i := up_eq
    have sm : (S.2.1 a).getD (x + i) 0 + (ppN (S.2.1 a) x (S.2.1 b) i).sum ≤ 18 := by
      have := o1.2.2
      have e : ppN (S.2.1 a) x (S.2.1 b) (i + 1) = ins ((S.2.1 a).getD (x + i) 0) (ppN (S.2.1 a) x (S.2.1 b) i) := rfl
      rw [e, ins_sum] at this
      exact this
    refine ok_iload dX5_copy_149 rfl ?_
    refine ok_iload_n dX5_copy_151 rfl ?_
    refine okN_icmp_ge (tgt := 174) dX5_copy_152 (by decide) (by omega) (by omega) (fun c1 => ?_) (fun c1 => ?_)
    · exact absurd c1 (by omega)
    · refine ok_aload_n dX5_copy_155 rfl rfl ?_
      refine ok_iload dX5_copy_156 rfl ?_
      refine ok_aload_n dX5_copy_158 rfl rfl ?_
      refine ok_get dX5_copy_159 fl_X5_19 (by assumption) (by rfl) ?_
      refine ok_iload dX5_copy_162 rfl ?_
      first | refine okN_iald dX5_copy_164 (by assumption) (by omega) (by decide) ?_ | refine okF_iald dX5_copy_164 (by assumption) (by omega) (by omega) ?_ | refine okN_kald dX5_copy_164 (by assumption) (by omega) (by decide) ?_
      rw [hM i c1]
      refine call_X5_put dX5_copy_165 lk_X5_87 ⟨Nat.le_of_ble_eq_true rfl, Nat.le_of_ble_eq_true rfl, Nat.le_of_ble_eq_true rfl⟩ (by assumption) (Nat.le_of_ble_eq_true rfl) ?_
      refine c_X5_put I1 hb ht hp (by rw [up1]; exact sm) (fun h2 x2 I2 => ?_)
      rw [up1, s_P_P] at I2
      refine okN_inc dX5_copy_168 rfl (st_7_6 rfl) (Nat.le_of_ble_eq_true rfl) ?_
      refine ok_goto (tgt := 149) dX5_copy_171 (by decide) ?_
      exact ih (i + 1) h2 (by omega) (x1.tr' x2) I2 (x2.at (by decide) e5)
theorem p_X5_copy {p i n to : Int32} (I : IM h S) (k : ∀ h', fM h h' → IM h' (sp_copy S p i n to).2 → Q (some (.int (sp_copy S p i n to).1)) h') : Ok g MX5_copy (m_J g MX5_copy Q) 0 [some (.ref 46), some (.int p), some (.int i), some (.int n), some (.int to), none, none] [] h 0 0 := by
  obtain ⟨sz, li, lz, kd, I⟩ := I
  obtain ⟨e0, -, ⟨F, e1, f1⟩, ⟨G, e2, g2⟩, -, ⟨⟨M0, e50⟩, -⟩, k6, -⟩ := id I
  unfold sp_copy at k
  refine ok_iload_n dX5_copy_0 rfl ?_
  refine call_X5_isParting dX5_copy_1 lk_X5_73 ⟨Nat.le_of_ble_eq_true rfl, Nat.le_of_ble_eq_true rfl, Nat.le_of_ble_eq_true rfl⟩ (Nat.le_of_ble_eq_true rfl) ?_
  refine c_X5_isParting (fun a q1 q2 q3 => ?_) (fun z => ?_)
  · rw [q1] at k
    subst q3
    refine okN_if_eq (tgt := 15) dX5_copy_4 (by decide) (by omega) (fun c1 => ?_) (fun c1 => ?_)
    · exact absurd c1 (by decide)
    · refine ok_iload dX5_copy_7 rfl ?_
      refine call_X5_isParting dX5_copy_9 lk_X5_73 ⟨Nat.le_of_ble_eq_true rfl, Nat.le_of_ble_eq_true rfl, Nat.le_of_ble_eq_true rfl⟩ (Nat.le_of_ble_eq_true rfl) ?_
      refine c_X5_isParting (fun b p1 p2 p3 => ?_) (fun z => ?_)
      · rw [p1] at k
        dsimp only at k
        subst p3
        refine okN_if_ne (tgt := 17) dX5_copy_12 (by decide) (by omega) (fun c2 => ?_) (fun c2 => ?_)
        · refine ok_iload_n dX5_copy_17 rfl ?_
          refine ok_if_ge (tgt := 27) dX5_copy_18 (by decide) (fun c3 => ?_) (fun c3 => ?_)
          · rw [if_neg (by rw [tI_0]; rw [Int32.le_iff_toInt_le] at c3; have : (0 : Int32).toInt = 0 := rfl; omega)] at k
            have bad : ¬ (S.1 a = true ∧ S.1 b = true) → Ok g MX5_copy (m_J g MX5_copy Q) 46 [some (.ref 46), some (.int (nI a)), some (.int i), some (.int n), some (.int (nI b)), none, none] [] h 0 0 := by
              intro hn
              rw [if_neg hn] at k
              refine ok_aload_n dX5_copy_46 rfl rfl ?_
              refine ok_iconst (v := nI 1) dX5_copy_47 (by decide) ?_
              refine call_X5_meets dX5_copy_48 lk_X5_77 ⟨Nat.le_of_ble_eq_true rfl, Nat.le_of_ble_eq_true rfl, Nat.le_of_ble_eq_true rfl⟩ (by assumption) (Nat.le_of_ble_eq_true rfl) ?_
              refine c_X5_meets I (by decide) (fun h' x' I' => ?_)
              refine ok_iret dX5_copy_51 rfl rfl ⟨Nat.le_of_ble_eq_true rfl, Nat.le_of_ble_eq_true rfl⟩ ?_
              exact k h' (x'.m (by decide)) ⟨_, _, _, _, I'⟩
            refine ok_aload_n dX5_copy_27 rfl rfl ?_
            refine ok_get dX5_copy_28 fl_X5_13 (by assumption) (by rfl) ?_
            refine ok_iload_n dX5_copy_31 rfl ?_
            first | refine okN_iald dX5_copy_32 (by assumption) (by omega) (by decide) ?_ | refine okF_iald dX5_copy_32 (by assumption) (by omega) (by omega) ?_ | refine okN_kald dX5_copy_32 (by assumption) (by omega) (by decide) ?_
            rw [f1 a q2]
            cases hta : S.1 a with
            | false =>
              rw [if_neg (by decide)]
              refine ok_if_lt (tgt := 46) dX5_copy_33 (by decide) (fun c4 => ?_) (fun c4 => ?_)
              · exact bad (fun z => by rw [hta] at z; exact absurd z.1 (by decide))
              · exact absurd (by decide) c4
            | true =>
              rw [if_pos rfl]
              have ola := k6 a q2 hta
              have hla := ola.len
              have hsa := ola.2.2
              refine okN_if_lt (tgt := 46) dX5_copy_33 (by decide) (by omega) ?_
              refine ok_aload_n dX5_copy_36 rfl rfl ?_
              refine ok_get dX5_copy_37 fl_X5_13 (by assumption) (by rfl) ?_
              refine ok_iload dX5_copy_40 rfl ?_
              first | refine okN_iald dX5_copy_42 (by assumption) (by omega) (by decide) ?_ | refine okF_iald dX5_copy_42 (by assumption) (by omega) (by omega) ?_ | refine okN_kald dX5_copy_42 (by assumption) (by omega) (by decide) ?_
              rw [f1 b p2]
              cases htb : S.1 b with
              | false =>
                rw [if_neg (by decide)]
                refine ok_if_ge (tgt := 52) dX5_copy_43 (by decide) (fun c5 => ?_) (fun c5 => ?_)
                · exact absurd c5 m9_neg
                · exact bad (fun z => by rw [htb] at z; exact absurd z.2 (by decide))
              | true =>
                rw [if_pos rfl]
                rw [if_pos ⟨hta, htb⟩] at k
                have olb := k6 b p2 htb
                have hlb := olb.len
                have hsb := olb.2.2
                refine okN_if_ge (tgt := 52) dX5_copy_43 (by decide) (by omega) ?_
                have beyond : (∀ h', fM h h' → IM h' (fd S 2).2 → Q (some (.int (fd S 2).1)) h') → Ok g MX5_copy (m_J g MX5_copy Q) 72 [some (.ref 46), some (.int (nI a)), some (.int i), some (.int n), some (.int (nI b)), none, none] [] h 0 0 := by
                  intro kk
                  refine ok_aload_n dX5_copy_72 rfl rfl ?_
                  refine ok_iconst (v := nI 2) dX5_copy_73 (by decide) ?_
                  refine call_X5_meets dX5_copy_74 lk_X5_77 ⟨Nat.le_of_ble_eq_true rfl, Nat.le_of_ble_eq_true rfl, Nat.le_of_ble_eq_true rfl⟩ (by assumption) (Nat.le_of_ble_eq_true rfl) ?_
                  refine c_X5_meets I (by decide) (fun h' x' I' => ?_)
                  refine ok_iret dX5_copy_77 rfl rfl ⟨Nat.le_of_ble_eq_true rfl, Nat.le_of_ble_eq_true rfl⟩ ?_
                  exact kk h' (x'.m (by decide)) ⟨_, _, _, _, I'⟩
                refine ok_iload_n dX5_copy_52 rfl ?_
                refine ok_if_lt (tgt := 72) dX5_copy_53 (by decide) (fun c6 => ?_) (fun c6 => ?_)
                · exact beyond (by rw [pl_lt c6] at k; exact k)
                · obtain ⟨x, hx1, rfl⟩ := nI_of c6
                  obtain ⟨m, hm1, rfl⟩ := nI_of (x := n) (by rw [tI_0]; rw [Int32.le_iff_toInt_le] at c3; have : (0 : Int32).toInt = 0 := rfl; omega)
                  refine ok_iload_n dX5_copy_56 rfl ?_
                  refine ok_i2l dX5_copy_57 ?_
                  rw [nI_l hx1]
                  refine ok_iload_n dX5_copy_58 rfl ?_
                  refine ok_i2l dX5_copy_59 ?_
                  rw [nI_l hm1]
                  refine ok_ladd dX5_copy_60 ?_
                  refine ok_aload_n dX5_copy_61 rfl rfl ?_
                  refine ok_get dX5_copy_62 fl_X5_13 (by assumption) (by rfl) ?_
                  refine ok_iload_n dX5_copy_65 rfl ?_
                  first | refine okN_iald dX5_copy_66 (by assumption) (by omega) (by decide) ?_ | refine okF_iald dX5_copy_66 (by assumption) (by omega) (by omega) ?_ | refine okN_kald dX5_copy_66 (by assumption) (by omega) (by decide) ?_
                  rw [f1 a q2, if_pos hta]
                  refine ok_i2l dX5_copy_67 ?_
                  rw [nI_l (by omega)]
                  refine ok_lcmp dX5_copy_68 ?_
                  have key : lg_cmp (lN x + lN m) (lN (S.2.1 a).length) ≤ 0 ↔ x + m ≤ (S.2.1 a).length := by
                    rw [lg_cmp_le, lN_add, Int64.le_iff_toInt_le, lN_toInt (show (S.2.1 a).length < 2 ^ 31 by omega)]
                    have : (lN (x + m)).toInt = ((x + m : Nat) : Int) := by
                      unfold lN
                      rw [Int64.toInt_ofNat_of_lt (by omega)]
                    rw [this]
                    omega
                  refine ok_if_le (tgt := 78) dX5_copy_69 (by decide) (fun c7 => ?_) (fun c7 => ?_)
                  · rw [key] at c7
                    rw [pl_nI (by omega) (show x < (S.2.1 a).length + 1 by omega), pl_nI (by decide) (show m < 19 by omega)] at k
                    dsimp only at k
                    rw [if_pos c7] at k
                    refine ok_iconst (v := nI 0) dX5_copy_78 (by decide) ?_
                    refine ok_istore dX5_copy_79 (st_7_5 rfl) (Nat.le_of_ble_eq_true rfl) ?_
                    refine ok_iconst (v := nI 0) dX5_copy_81 (by decide) ?_
                    refine ok_istore dX5_copy_82 (st_7_6 rfl) (Nat.le_of_ble_eq_true rfl) ?_
                    have tl2 := tsum_le (S.2.1 a) (x + m)
                    have z0 : tsum (S.2.1 a) (x + 0) - tsum (S.2.1 a) x = 0 := by rw [Nat.add_zero]; omega
                    have L1 := l_X5_copy1 (g := g) (Q := Q) (to := nI b) I q2 hta c7 (fun h' M x' I' e5 hM => by
                      have e0' := I'.1
                      refine ok_aload_n dX5_copy_129 rfl rfl ?_
                      refine ok_iload dX5_copy_130 rfl ?_
                      refine call_X5_cards dX5_copy_132 lk_X5_84 ⟨Nat.le_of_ble_eq_true rfl, Nat.le_of_ble_eq_true rfl, Nat.le_of_ble_eq_true rfl⟩ (by assumption) (Nat.le_of_ble_eq_true rfl) ?_
                      refine c_X5_cards I' p2 htb ?_
                      dsimp only [m_push]
                      refine ok_iload dX5_copy_135 rfl ?_
                      first | refine okN_iadd dX5_copy_137 ?_ | refine ok_iadd dX5_copy_137 ?_
                      refine ok_bipush (v := nI 18) dX5_copy_138 (by decide) ?_
                      refine okN_icmp_le (tgt := 146) dX5_copy_140 (by decide) (by omega) (by omega) (fun c8 => ?_) (fun c8 => ?_)
                      · rw [if_pos c8] at k
                        have mono : ∀ d y, y + d = m → tsum (S.2.1 a) (x + y) ≤ tsum (S.2.1 a) (x + m) := by
                          intro d
                          induction d with
                          | zero => intro y hy; rw [show y = m by omega]; exact Nat.le_refl _
                          | succ d ih => intro y hy; have := ih (y + 1) (by omega); have := tsum_succ (S.2.1 a) (x + y) (by omega); rw [show x + (y + 1) = x + y + 1 by omega] at *; omega
                        have okt : ∀ y, y ≤ m → okl (ppN (S.2.1 a) x (S.2.1 b) y) := fun y hy => by
                          have := mono (m - y) y (by omega)
                          exact (ppN_inv ola olb x y (by omega) (by omega)).1
                        refine ok_iconst (v := nI 0) dX5_copy_146 (by decide) ?_
                        refine ok_istore dX5_copy_147 (st_7_6 rfl) (Nat.le_of_ble_eq_true rfl) ?_
                        refine l_X5_copy2 (h := h') ola olb p2 htb c7 hM okt (fun h2 x2 I2 => ?_) m 0 h' (by omega) hx.rf (by rw [show ppN (S.2.1 a) x (S.2.1 b) 0 = S.2.1 b from rfl, s_P_id]; exact I') e5
                        exact k h2 ((x'.m (by decide)).tr (x2.m (by decide))) ⟨_, _, _, _, I2⟩
                      · rw [if_neg (by omega)] at k
                        refine ok_bipush (v := -2) dX5_copy_143 (by decide) ?_
                        refine ok_iret dX5_copy_145 rfl rfl ⟨Nat.le_of_ble_eq_true rfl, Nat.le_of_ble_eq_true rfl⟩ ?_
                        exact k h' (x'.m (by decide)) ⟨_, _, _, _, I'⟩) m 0 h M0 (by omega) hx.rf I e50 (fun y hy => by omega) (Nat.le_refl _)
                    rw [z0] at L1
                    exact L1
                  · rw [key] at c7
                    refine beyond ?_
                    rcases pl_cases ((S.2.1 a).length + 1) (nI x) (by omega) with e | ⟨x', e, hx5, e3⟩
                    · rw [e] at k; exact k
                    · rw [e] at k
                      rcases pl_cases 19 (nI m) (by decide) with e4 | ⟨m', e4, hm5, e5⟩
                      · rw [e4] at k; exact k
                      · rw [e4] at k
                        dsimp only at k
                        have ex := (nI_eq hx1 (by omega)).mp e3
                        have em := (nI_eq hm1 (by omega)).mp e5
                        rw [if_neg (by omega)] at k
                        exact k
          · rw [if_pos (by rw [tI_0]; rw [Int32.le_iff_toInt_le] at c3; have : (0 : Int32).toInt = 0 := rfl; omega)] at k
            refine ok_aload_n dX5_copy_21 rfl rfl ?_
            refine ok_iconst (v := nI 5) dX5_copy_22 (by decide) ?_
            refine call_X5_meets dX5_copy_23 lk_X5_77 ⟨Nat.le_of_ble_eq_true rfl, Nat.le_of_ble_eq_true rfl, Nat.le_of_ble_eq_true rfl⟩ (by assumption) (Nat.le_of_ble_eq_true rfl) ?_
            refine c_X5_meets I (by decide) (fun h' x' I' => ?_)
            refine ok_iret dX5_copy_26 rfl rfl ⟨Nat.le_of_ble_eq_true rfl, Nat.le_of_ble_eq_true rfl⟩ ?_
            exact k h' (x'.m (by decide)) ⟨_, _, _, _, I'⟩
        · exact absurd c2 (by decide)
      · rw [z] at k
        dsimp only at k
        refine okN_if_ne (tgt := 17) dX5_copy_12 (by decide) (by omega) (fun c2 => ?_) (fun c2 => ?_)
        · exact absurd c2 (by decide)
        · refine ok_iconst (v := -1) dX5_copy_15 (by decide) ?_
          refine ok_iret dX5_copy_16 rfl rfl ⟨Nat.le_of_ble_eq_true rfl, Nat.le_of_ble_eq_true rfl⟩ ?_
          exact k h fM.rf ⟨_, _, _, _, I⟩
  · rw [z] at k
    dsimp only at k
    refine okN_if_eq (tgt := 15) dX5_copy_4 (by decide) (by omega) (fun c1 => ?_) (fun c1 => ?_)
    · refine ok_iconst (v := -1) dX5_copy_15 (by decide) ?_
      refine ok_iret dX5_copy_16 rfl rfl ⟨Nat.le_of_ble_eq_true rfl, Nat.le_of_ble_eq_true rfl⟩ ?_
      exact k h fM.rf ⟨_, _, _, _, I⟩
    · exact absurd c1 (by decide)
end MCOPY
