/-! ===== chartOf ===== -/
theorem chk_W {n k : Nat} (hn : n < 19) (hk : k < cap n n) : (wr n k).sum = n ∧ nb (wr n k) = k := by
  have h := chkW_all n hn
  unfold chkW at h
  have := List.all_eq_true.mp h k (List.mem_range.mpr hk)
  simp only [Bool.and_eq_true, beq_iff_eq] at this
  exact ⟨this.1.2, this.2⟩
theorem chk_S {s k : Nat} (hs : s < 76) (hk : k < NN s) : nb (stp (s / 19) (wr (s % 19) k)) = nx s k ∧ (stp (s / 19) (wr (s % 19) k)).sum = s % 19 ∧ nx s k < NN s := by
  have h := chkS_all s hs
  unfold chkS at h
  have := List.all_eq_true.mp h k (List.mem_range.mpr hk)
  simp only [Bool.and_eq_true, beq_iff_eq, decide_eq_true_eq] at this
  exact ⟨this.1.1, this.1.2, this.2⟩
def nxC (s : Nat) : Nat → Nat
  | 0 => 0
  | k + 1 => st (nxC s k) k (nx s k)
theorem nxC_gt (s : Nat) : ∀ k j, j < k → gt (nxC s k) j = nx s j
  | 0, j, h => by omega
  | k + 1, j, h => by
    unfold nxC
    by_cases c : j = k
    · rw [c, gt_st_eq _ _ (nx_512 s k)]
    · rw [gt_st_ne _ _ (nx_512 s k) c, nxC_gt s k j (by omega)]
theorem coS_le (s : Nat) : ∀ k, k < 400 → ∀ j, gt (coS s k) j ≤ k
  | 0, _, j => by rw [coS, gt_0]; exact Nat.le_refl _
  | k + 1, hk, j => by
    have ih := coS_le s k (by omega)
    have b := ih (nx s k)
    unfold coS
    by_cases c : j = nx s k
    · rw [c, gt_st_eq _ _ (by omega)]; omega
    · rw [gt_st_ne _ _ (by omega) c]
      have := ih j
      omega
section CHARTOF
variable {g : mG} {h : mH} {Q : Option Value → mH → Prop} {S : ST}
theorem l_X4_chartOf {n s q ru : Nat} {cA : mE} (hs : s < 76) (e1 : s / 19 = ru) (e2 : s % 19 = n) (hn : n < 19) (hru : ru < 4) (hq : 64 ≤ q) {fi : Nat} {wk : Int64} {slot z : Option Value}
    (k : ∀ h' z, hx [18, 19, 20, 21, q + 1, q + 2] h h' → hc h' 0 = some (gho ru fi wk) → Sp h' 18 19 → Sp h' 20 21 → hc h' q = some (chc (NN s) (q + 1) (q + 2) (q + 3) (q + 4) (q + 5) 0 0 0 0 0) → Af h' (q + 1) (NN s) (NN s) (gt (nxC s (NN s))) → Af h' (q + 2) (NN s) (NN s) (gt (coS s (NN s))) → Ok g MX4_chartOf (m_J g MX4_chartOf Q) 101 [some (.ref 0), some (.int (nI n)), slot, some (.ref q), z] [] h' 6 1936) :
    ∀ (d j : Nat) (h1 : mH), j + d = NN s → hx [18, 19, 20, 21, q + 1, q + 2] h h1 → hc h1 0 = some (gho ru fi wk) → Ls h1 4 5 → Sp h1 18 19 → Sp h1 20 21 → hc h1 q = some (chc (NN s) (q + 1) (q + 2) (q + 3) (q + 4) (q + 5) 0 0 0 0 0) → Af h1 (q + 1) (NN s) (NN s) (gt (nxC s j)) → Af h1 (q + 2) (NN s) (NN s) (gt (coS s j)) → Ok g MX4_chartOf (m_J g MX4_chartOf Q) 40 [some (.ref 0), some (.int (nI n)), slot, some (.ref q), some (.int (nI j))] [] h1 6 1936 := by
  have hN := NN_lt hs
  intro d
  induction d with
  | zero =>
    intro j h1 hj x1 e0 ls s1 s2 ea r1 r2
    have ej : j = NN s := by omega
    subst ej
    refine ok_iload dX4_chartOf_40 rfl ?_
    refine ok_aload_n dX4_chartOf_42 rfl rfl ?_
    refine ok_getR dX4_chartOf_43 fl_X4_198 (by assumption) (by rfl) ?_
    refine okN_icmp_ge (tgt := 101) dX4_chartOf_46 (by decide) (by omega) (by omega) (fun c1 => ?_) (fun c1 => ?_)
    · exact k h1 _ x1 e0 s1 s2 ea r1 r2
    · exact absurd c1 (by omega)
  | succ d ih =>
    intro j h1 hj x1 e0 ls s1 s2 ea r1 r2
    obtain ⟨l1, o1, rr1⟩ := s1
    obtain ⟨l2, o2, rr2⟩ := s2
    have es1 := rr1.1
    have es2 := rr2.1
    have els := ls.1
    obtain ⟨b1, b2, b3⟩ := chk_S hs (k := j) (by omega)
    have cl := coS_le s j (by omega) (nx s j)
    refine ok_iload dX4_chartOf_40 rfl ?_
    refine ok_aload_n dX4_chartOf_42 rfl rfl ?_
    refine ok_getR dX4_chartOf_43 fl_X4_198 (by assumption) (by rfl) ?_
    refine okN_icmp_ge (tgt := 101) dX4_chartOf_46 (by decide) (by omega) (by omega) (fun c1 => ?_) (fun c1 => ?_)
    · exact absurd c1 (by omega)
    · refine ok_aload_n dX4_chartOf_49 rfl rfl ?_
      refine ok_get dX4_chartOf_50 fl_X4_26 (by assumption) (by rfl) ?_
      refine ok_aload_n dX4_chartOf_53 rfl rfl ?_
      refine ok_get dX4_chartOf_54 fl_X4_44 (by assumption) (by rfl) ?_
      refine ok_iload_n dX4_chartOf_57 rfl ?_
      refine ok_iload dX4_chartOf_58 rfl ?_
      refine call_X1_write dX4_chartOf_60 lk_X4_119 ⟨Nat.le_of_ble_eq_true rfl, Nat.le_of_ble_eq_true rfl, Nat.le_of_ble_eq_true rfl⟩ (by assumption) (Nat.le_of_ble_eq_true rfl) ?_
      refine c_X1_write ls rr1 (by decide) (by decide) (by decide) (by decide) (by decide) hn (by omega) (fun h2 x2 r2' o2' => ?_)
      have e02 := x2.at (by decide) e0
      have ls2 := ls.at x2 (by decide) (by decide)
      have rr22 := rr2.at x2 (by decide) (by decide)
      have ea2 := x2.at (by simp <;> omega) ea
      have r12 := r1.at x2 (by simp <;> omega)
      have r22 := r2.at x2 (by simp <;> omega)
      refine ok_aload_n dX4_chartOf_63 rfl rfl ?_
      refine ok_get dX4_chartOf_64 fl_X4_48 (by assumption) (by rfl) ?_
      refine ok_aload_n dX4_chartOf_67 rfl rfl ?_
      refine ok_get dX4_chartOf_68 fl_X4_44 (by assumption) (by rfl) ?_
      refine ok_aload_n dX4_chartOf_71 rfl rfl ?_
      refine ok_get dX4_chartOf_72 fl_X4_93 (by assumption) (by rfl) ?_
      refine call_X4_stepInto dX4_chartOf_75 lk_X4_200 ⟨Nat.le_of_ble_eq_true rfl, Nat.le_of_ble_eq_true rfl, Nat.le_of_ble_eq_true rfl⟩ (Nat.le_of_ble_eq_true rfl) ?_
      refine c_X4_stepInto r2' rr22 hru (by decide) (by decide) (by decide) (by decide) (by decide) o2' (fun h3 x3 r3 o3 => ?_)
      have e03 := x3.at (by decide) e02
      have ls3 := ls2.at x3 (by decide) (by decide)
      have rr13 := r2'.at x3 (by decide) (by decide)
      have ea3 := x3.at (by simp <;> omega) ea2
      have r13 := r12.at x3 (by simp <;> omega)
      have r23 := r22.at x3 (by simp <;> omega)
      have els3 := ls3.1
      have er3 := r3.1
      refine ok_aload_n dX4_chartOf_78 rfl rfl ?_
      refine ok_iload dX4_chartOf_79 rfl ?_
      refine ok_aload_n dX4_chartOf_81 rfl rfl ?_
      refine ok_get dX4_chartOf_82 fl_X4_26 (by assumption) (by rfl) ?_
      refine ok_aload_n dX4_chartOf_85 rfl rfl ?_
      refine ok_get dX4_chartOf_86 fl_X4_48 (by assumption) (by rfl) ?_
      refine call_X1_numberOf dX4_chartOf_89 lk_X4_100 ⟨Nat.le_of_ble_eq_true rfl, Nat.le_of_ble_eq_true rfl, Nat.le_of_ble_eq_true rfl⟩ (by assumption) (Nat.le_of_ble_eq_true rfl) ?_
      refine c_X1_numberOf ls3 r3 o3 ?_
      rw [show nb (stp ru (wr n j)) = nx s j by rw [← e1, ← e2]; exact b1]
      dsimp only [m_push]
      refine call_X0_link dX4_chartOf_92 lk_X4_204 ⟨Nat.le_of_ble_eq_true rfl, Nat.le_of_ble_eq_true rfl, Nat.le_of_ble_eq_true rfl⟩ (by assumption) (Nat.le_of_ble_eq_true rfl) ?_
      refine c_X0_link ea3 hN (by omega) b3 r13 r23 (by omega) (by omega) (by omega) (by omega) (fun h4 x4 r14 r24 => ?_)
      refine okN_inc dX4_chartOf_95 rfl (st_5_4 rfl) (Nat.le_of_ble_eq_true rfl) ?_
      refine ok_goto (tgt := 40) dX4_chartOf_98 (by decide) ?_
      refine ih (j + 1) h4 (by omega) (((x1.tr x2 (C := [18, 19, 20, 21, q + 1, q + 2]) (by simp) (by simp)).tr x3 (C := [18, 19, 20, 21, q + 1, q + 2]) (by simp) (by simp)).tr x4 (by simp) (by simp)) (x4.at (by simp <;> omega) e03) (ls3.at x4 (by simp <;> omega) (by simp <;> omega)) ⟨_, o2', rr13.at x4 (by simp <;> omega) (by simp <;> omega)⟩ ⟨_, o3, r3.at x4 (by simp <;> omega) (by simp <;> omega)⟩ (x4.at (by simp <;> omega) ea3) r14 r24
theorem c_X4_chartOf {n : Nat} (I : IX h S) (hn : n < 19) (h64 : 64 ≤ h.1) (k : ∀ h' q, fX h h' → IX h' S → Chd h' q (19 * S.2.2.1 + n) → Q (some (.ref q)) h') : Ok g MX4_chartOf (m_J g MX4_chartOf Q) 0 [some (.ref 0), some (.int (nI n)), none, none, none] [] h 0 0 := by
  obtain ⟨e0, hr, i1, i2, i3, i4, i5, ⟨F, e17, f17⟩, i7, i7', i8⟩ := id I
  generalize hs0 : 19 * S.2.2.1 + n = s at k
  have hs : s < 76 := by omega
  have d1 : s / 19 = S.2.2.1 := by omega
  have d2 : s % 19 = n := by omega
  have hN := NN_lt hs
  refine ok_aload_n dX4_chartOf_0 rfl rfl ?_
  refine ok_get dX4_chartOf_1 fl_X4_93 (by assumption) (by rfl) ?_
  refine ok_bipush (v := nI 19) dX4_chartOf_4 (by decide) ?_
  first | refine okN_imul dX4_chartOf_6 ?_ | refine ok_imul dX4_chartOf_6 ?_
  refine ok_iload_n dX4_chartOf_7 rfl ?_
  first | refine okN_iadd dX4_chartOf_8 ?_ | refine ok_iadd dX4_chartOf_8 ?_
  rw [show S.2.2.1 * 19 + n = s by omega]
  refine ok_istore_n dX4_chartOf_9 (st_5_2 rfl) (Nat.le_of_ble_eq_true rfl) ?_
  refine ok_aload_n dX4_chartOf_10 rfl rfl ?_
  refine ok_get dX4_chartOf_11 fl_X4_39 (by assumption) (by rfl) ?_
  refine ok_iload_n dX4_chartOf_14 rfl ?_
  first | refine okN_aald (t := 3) dX4_chartOf_15 rfl (by assumption) (by omega) (by decide) ?_ | refine okN_aald (t := 4) dX4_chartOf_15 rfl (by assumption) (by omega) (by decide) ?_
  rcases f17 s hs with z | ⟨q, q1, q2, q3⟩
  · rw [z]
    dsimp only [m_rv]
    refine ok_astore_n dX4_chartOf_16 (st_5_3 rfl) (Nat.le_of_ble_eq_true rfl) rfl ?_
    refine ok_aload_n dX4_chartOf_17 rfl rfl ?_
    refine ok_ifnonnull (tgt := 112) dX4_chartOf_18 (by decide) rfl (fun c1 => ?_) (fun c1 => ?_)
    · exact absurd rfl c1
    · refine okR_new (ci := 0) (r := (RX0, TX0, 11)) (fs := nfX0) tyX0 dX4_chartOf_21 rfl inX0 tyX0_ok nw_X4_37 nfX0_ok nfX0_sv ⟨Nat.le_of_ble_eq_true rfl, Nat.le_of_ble_eq_true rfl⟩ (fun h1 n1 eq1 => ?_)
      have e01 := n1.at e0
      have els1 := n1.at i4.1
      have lsn : Ls h1 4 5 := ⟨els1, n1.at i4.2⟩
      refine ok_dup dX4_chartOf_24 rfl ?_
      refine ok_aload_n dX4_chartOf_25 rfl rfl ?_
      refine ok_get dX4_chartOf_26 fl_X4_26 (by assumption) (by rfl) ?_
      refine ok_iload_n dX4_chartOf_29 rfl ?_
      refine call_X1_length dX4_chartOf_30 lk_X4_116 ⟨Nat.le_of_ble_eq_true rfl, Nat.le_of_ble_eq_true rfl, Nat.le_of_ble_eq_true rfl⟩ (by assumption) (Nat.le_of_ble_eq_true rfl) ?_
      refine c_X1_length lsn hn ?_
      have enn : cap n n = NN s := by unfold NN; rw [d2]
      rw [enn]
      dsimp only [m_push]
      refine call_X0_init dX4_chartOf_33 lk_X4_196 ⟨Nat.le_of_ble_eq_true rfl, Nat.le_of_ble_eq_true rfl, Nat.le_of_ble_eq_true rfl⟩ (Nat.le_of_ble_eq_true rfl) ?_
      refine c_X0_init hN eq1 (fun h2 z2 w2 ea2 ar2 => ?_)
      have z1 := n1.1
      rw [z1] at ea2 ar2 z2
      dsimp only [m_push]
      have w02 : hw [] h h2 := ⟨by omega, fun q l _ => (w2.2 q (by omega) (by simp <;> omega)).trans (n1.2 q (by omega))⟩
      have af : ∀ i, i < 5 → Af h2 (h.1 + 1 + i) (NN s) (NN s) (gt 0) := fun i hi => ⟨Nat.le_refl _, _, ar2 i hi, fun j _ => (gt_0 j).symm⟩
      refine ok_widen (uc' := 6) (us' := 1936) (by omega) (by omega) ?_
      refine ok_astore_n dX4_chartOf_36 (st_5_3 rfl) (Nat.le_of_ble_eq_true rfl) rfl ?_
      refine ok_iconst (v := nI 0) dX4_chartOf_37 (by decide) ?_
      refine ok_istore dX4_chartOf_38 (st_5_4 rfl) (Nat.le_of_ble_eq_true rfl) ?_
      refine l_X4_chartOf (h := h2) (cA := aI 0 (fun _ => 0)) (z := none) hs d1 d2 hn hr h64 (fun h3 zz x3 e03 s13 s23 ea3 r13 r23 => ?_) (NN s) 0 h2 (by omega) hx.rf (w02.at (by simp) e0) (i4.w w02 (by simp) (by simp)) (i7.w w02 (by simp) (by simp)) (i7'.w w02 (by simp) (by simp)) ea2 (af 0 (by omega)) (af 1 (by omega))
      refine ok_aload_n dX4_chartOf_101 rfl rfl ?_
      refine call_X0_draw dX4_chartOf_102 lk_X4_208 ⟨Nat.le_of_ble_eq_true rfl, Nat.le_of_ble_eq_true rfl, Nat.le_of_ble_eq_true rfl⟩ ea3 (Nat.le_of_ble_eq_true rfl) ?_
      have hq3 : h3.1 = h.1 + 6 := by rw [x3.1, z2]
      refine c_X0_draw hs ea3 (r13.cg (fun j hj => nxC_gt s _ j hj)) r23 ((af 2 (by omega)).at x3 (by simp <;> omega)) ((af 3 (by omega)).at x3 (by simp <;> omega)) ((af 4 (by omega)).at x3 (by simp <;> omega)) (fun h4 z4 w4 ch4 => ?_)
      dsimp only [m_push]
      have w03 : hw [18, 19, 20, 21] h h3 := (w02.mono (by simp)).tr x3.w (by simp <;> omega)
      have w04 : hw [18, 19, 20, 21] h h4 := w03.tr w4 (by simp <;> omega)
      have e04 := w04.at (by decide) e0
      have e174 := w04.at (by decide) e17
      have ec4 := ch4.1
      refine ok_aload_n dX4_chartOf_105 rfl rfl ?_
      refine ok_get dX4_chartOf_106 fl_X4_39 (by assumption) (by rfl) ?_
      refine ok_iload_n dX4_chartOf_109 rfl ?_
      refine ok_aload_n dX4_chartOf_110 rfl rfl ?_
      refine okN_aast (r := (RX0, TX0, 11)) (t := 4) (ci := 0) dX4_chartOf_111 rfl rfl e174 ec4 hs (by decide) (fun h5 x5 e175 => ?_)
      refine ok_aload_n dX4_chartOf_112 rfl rfl ?_
      refine ok_aret dX4_chartOf_113 rfl rfl ⟨Nat.le_of_ble_eq_true rfl, Nat.le_of_ble_eq_true rfl⟩ ?_
      have w5 : hw [17] h4 h5 := x5.w
      have w05 : hw [17, 18, 19, 20, 21] h h5 := (w04.mono (by simp)).tr w5 (by simp)
      have sp1 : Sp h5 18 19 := (s13.w w4 (by simp <;> omega) (by simp <;> omega)).w w5 (by decide) (by decide)
      have sp2 : Sp h5 20 21 := (s23.w w4 (by simp <;> omega) (by simp <;> omega)).w w5 (by decide) (by decide)
      refine k h5 h.1 (w05.f (by simp)) ⟨w05.at (by decide) e0, hr, i1.w w05 (by decide), i2.w w05 (by decide), i3.w w05 (by decide), i4.w w05 (by decide) (by decide), i5.w w05 (fun q l1 l2 => by simp <;> omega), ⟨_, e175, fun s' hs' => ?_⟩, sp1, sp2, i8.w w05 (fun q l1 l2 => by simp <;> omega)⟩ (ch4.w w5 (fun i hi => by simp <;> omega))
      by_cases c : s' = s
      · rw [c, up_eq]
        exact Or.inr ⟨h.1, rfl, h64, ch4.w w5 (fun i hi => by simp <;> omega)⟩
      · rw [up_ne c]
        rcases f17 s' hs' with y | ⟨q, y1, y2, y3⟩
        · exact Or.inl y
        · exact Or.inr ⟨q, y1, y2, y3.w w05 (fun i hi => by simp <;> omega)⟩
  · rw [q1]
    dsimp only [m_rv]
    refine ok_astore_n dX4_chartOf_16 (st_5_3 rfl) (Nat.le_of_ble_eq_true rfl) rfl ?_
    refine ok_aload_n dX4_chartOf_17 rfl rfl ?_
    refine ok_ifnonnull (tgt := 112) dX4_chartOf_18 (by decide) rfl (fun c1 => ?_) (fun c1 => ?_)
    · refine ok_aload_n dX4_chartOf_112 rfl rfl ?_
      refine ok_aret dX4_chartOf_113 rfl rfl ⟨Nat.le_of_ble_eq_true rfl, Nat.le_of_ble_eq_true rfl⟩ ?_
      exact k h q fX.rf I q3
    · cases c1
end CHARTOF
