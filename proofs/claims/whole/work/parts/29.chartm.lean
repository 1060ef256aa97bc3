/-! ===== what the checked numbers say ===== -/
theorem allN_spec {P : Nat → Bool} : ∀ {N k : Nat}, allN P N = true → k < N → P k = true
  | 0, k, _, h => by omega
  | N + 1, k, h, hk => by
    unfold allN at h
    rw [Bool.and_eq_true] at h
    by_cases c : k = N
    · rw [c]; exact h.2
    · exact allN_spec h.1 (by omega)
theorem ch_some {s : Nat} (hs : s < 76) : chM s = some (CH s) ∧ okC s (CH s) = true := by
  have h := chkC_all s hs
  unfold chkC at h
  unfold CH
  cases e : chM s with
  | none => rw [e] at h; cases h
  | some C => rw [e] at h; exact ⟨rfl, h⟩
theorem NN_lt {s : Nat} (hs : s < 76) : NN s < 386 := cap_lt (by omega) (by omega)
theorem NN_pos : ∀ s, s < 76 → 1 ≤ NN s := by decide +kernel
theorem nx_512 (s k : Nat) : nx s k < 512 := Nat.mod_lt _ (by decide)
theorem ch_k {s k : Nat} (hs : s < 76) (hk : k < NN s) :
    (c_ta s k = 0 → cyF s k (NN s + 1) k k 0 = some (c_be s k, c_le s k) ∧ itF s (c_be s k) k = k ∧ c_co s k ≠ 0) ∧ irF s k (c_be s k) (c_le s k) = (c_ta s k == 0) ∧ c_ta s (nx s k) = c_ta s k - 1 ∧ c_be s (nx s k) = c_be s k ∧ c_le s (nx s k) = c_le s k ∧ c_ta s k + c_be s k ≤ NN s ∧ (nx s k = k → c_ta s k = 0) ∧ 1 ≤ c_be s k ∧ c_co s k ≤ NN s ∧ c_le s k < NN s ∧ nx s k < NN s := by
  have h := (ch_some hs).2
  unfold okC at h
  simp only [Bool.and_eq_true] at h
  have h1 := allN_spec h.1.1.1.1.1 hk
  unfold okN at h1
  simp only [Bool.and_eq_true, Bool.or_eq_true, Bool.not_eq_true', beq_iff_eq, beq_eq_false_iff_ne, Nat.ble_eq, Nat.blt_eq] at h1
  obtain ⟨⟨⟨⟨⟨⟨⟨⟨⟨⟨a1, a2⟩, a3⟩, a4⟩, a5⟩, a6⟩, a7⟩, a8⟩, a9⟩, a10⟩, a11⟩ := h1
  refine ⟨fun q => ?_, a2, a3, a4, a5, a6, fun q => ?_, a8, a9, a10, a11⟩
  · rcases a1 with z | z
    · exact absurd q z
    · exact ⟨z.1.1, z.1.2, z.2⟩
  · rcases a7 with z | z
    · exact absurd q z
    · exact z
theorem ch_cnt {s : Nat} (hs : s < 76) : cntF (fun k => c_le s k == k) (NN s) = (CH s).2.1 ∧ cntF (fun k => c_ta s k == 0) (NN s) = (CH s).2.2.1 ∧ mxN (c_ta s) (NN s) = (CH s).2.2.2.1 ∧ cntF (fun k => c_co s k == 0) (NN s) = (CH s).2.2.2.2.1 ∧ mxN (c_be s) (NN s) = (CH s).2.2.2.2.2 := by
  have h := (ch_some hs).2
  unfold okC at h
  simp only [Bool.and_eq_true, beq_iff_eq] at h
  exact ⟨h.1.1.1.1.2, h.1.1.1.2, h.1.1.2, h.1.2, h.2⟩
theorem ch_parts {s : Nat} (hs : s < 76) : ∃ (p : Nat × Nat × Nat) (R : rgT) (T : tlT), peM s = some p ∧ rgN s (NN s) (coS s (NN s)) (NN s) 0 (0, p.1, 0, 0, 0, 0, 0) = some R ∧ tlS s p.2.1 p.2.2 (0, R.2.2.2.1, R.2.2.1, 0) = T ∧ CH s = ((coS s (NN s), T.1, T.2.1, T.2.2.1), R.2.2.2.2.1, R.2.2.2.2.2.1, T.2.2.2, R.1, R.2.2.2.2.2.2) := by
  have h := (ch_some hs).1
  unfold chM at h
  cases e1 : peM s with
  | none =>
    have e2 : rgM s = none := by unfold rgM; rw [e1]
    rw [e2] at h; cases h
  | some p =>
    cases e2 : rgM s with
    | none => rw [e2] at h; cases h
    | some R =>
      rw [e2] at h
      have e3 : tlM s = some (tlS s p.2.1 p.2.2 (0, R.2.2.2.1, R.2.2.1, 0)) := by
        unfold tlM
        rw [e1]
        dsimp only
        rw [e2]
      rw [e3] at h
      dsimp only at h
      refine ⟨p, R, _, rfl, ?_, rfl, (Option.some.inj h).symm⟩
      unfold rgM at e2
      rw [e1] at e2
      exact e2
theorem o1S_le (c : Nat) : ∀ k, (o1S c k).2 ≤ k
  | 0 => Nat.le_refl _
  | k + 1 => by
    have := o1S_le c k
    unfold o1S
    split
    · show (o1S c k).2 + 1 ≤ k + 1
      omega
    · omega
theorem o1S_in (c : Nat) : ∀ k, k < 386 → ∀ j, j < (o1S c k).2 → gt (o1S c k).1 j < k
  | 0, _, j, h => by simp [o1S] at h
  | k + 1, hk, j, h => by
    have ih := o1S_in c k (by omega)
    have le := o1S_le c k
    unfold o1S at h ⊢
    by_cases d : gt c k = 0
    · rw [if_pos d] at h ⊢
      dsimp only at h ⊢
      by_cases e : j = (o1S c k).2
      · rw [e, gt_st_eq _ _ (by omega)]; omega
      · rw [gt_st_ne _ _ (by omega) e]
        have := ih j (by omega)
        omega
    · rw [if_neg d] at h ⊢
      have := ih j h
      omega
/-! ===== a chart's methods ===== -/
abbrev chc (N a1 a2 a3 a4 a5 rc ro gT lo gB : Nat) : mE := .inr (0, [.int (nI N), .ref a1, .ref a2, .ref a3, .ref a4, .ref a5, .int (nI rc), .int (nI ro), .int (nI gT), .int (nI lo), .int (nI gB)])
section CHART
variable {g : mG} {h : mH} {Q : Option Value → mH → Prop} {a a1 a2 a3 a4 a5 rc ro gT lo gB N : Nat}
theorem c_X0_has {i : Int32} (ea : hc h a = some (chc N a1 a2 a3 a4 a5 rc ro gT lo gB)) (hN : N < 386) (k1 : ∀ j, pl N i = some j → j < N → i = nI j → Q (some (.int (nI 1))) h) (k0 : pl N i = none → Q (some (.int (nI 0))) h) : Ok g MX0_has (m_J g MX0_has Q) 0 [some (.ref a), some (.int i)] [] h 0 0 := by
  refine ok_iload_n dX0_has_0 rfl ?_
  refine ok_if_lt (tgt := 16) dX0_has_1 (by decide) (fun c1 => ?_) (fun c1 => ?_)
  · refine ok_iconst (v := nI 0) dX0_has_16 (by decide) ?_
    refine ok_iret dX0_has_17 rfl rfl ⟨Nat.le_of_ble_eq_true rfl, Nat.le_of_ble_eq_true rfl⟩ ?_
    exact k0 (pl_lt c1)
  · refine ok_iload_n dX0_has_4 rfl ?_
    refine ok_aload_n dX0_has_5 rfl rfl ?_
    refine ok_get dX0_has_6 fl_X0_15 (by assumption) (by rfl) ?_
    refine ok_icmp_ge (tgt := 16) dX0_has_9 (by decide) (fun c2 => ?_) (fun c2 => ?_)
    · refine ok_iconst (v := nI 0) dX0_has_16 (by decide) ?_
      refine ok_iret dX0_has_17 rfl rfl ⟨Nat.le_of_ble_eq_true rfl, Nat.le_of_ble_eq_true rfl⟩ ?_
      exact k0 (pl_ge (by omega) c2)
    · refine ok_iconst (v := nI 1) dX0_has_12 (by decide) ?_
      refine ok_goto (tgt := 17) dX0_has_13 (by decide) ?_
      refine ok_iret dX0_has_17 rfl rfl ⟨Nat.le_of_ble_eq_true rfl, Nat.le_of_ble_eq_true rfl⟩ ?_
      obtain ⟨j, e1, e2, e3⟩ := pl_in (n := N) (by omega) c1 c2
      exact k1 j e1 e2 e3
theorem c_X0_hasN {i : Nat} (ea : hc h a = some (chc N a1 a2 a3 a4 a5 rc ro gT lo gB)) (hN : N < 386) (hi : i < N) (k : Q (some (.int (nI 1))) h) : Ok g MX0_has (m_J g MX0_has Q) 0 [some (.ref a), some (.int (nI i))] [] h 0 0 :=
  c_X0_has ea hN (fun _ _ _ _ => k) (fun q => absurd q (by rw [pl_nI (by omega) hi]; simp))
theorem c_X0_link {i t X C : Nat} (ea : hc h a = some (chc N a1 a2 a3 a4 a5 rc ro gT lo gB)) (hN : N < 386) (hi : i < N) (ht : t < N) (r1 : Af h a1 N N (gt X)) (r2 : Af h a2 N N (gt C)) (hC : gt C t < 400) (h01 : a ≠ a1) (h02 : a ≠ a2) (h12 : a1 ≠ a2) (k : ∀ h', hx [a1, a2] h h' → Af h' a1 N N (gt (st X i t)) → Af h' a2 N N (gt (st C t (gt C t + 1))) → Q none h') :
    Ok g MX0_link (m_J g MX0_link Q) 0 [some (.ref a), some (.int (nI i)), some (.int (nI t))] [] h 0 0 := by
  refine ok_aload_n dX0_link_0 rfl rfl ?_
  refine ok_iload_n dX0_link_1 rfl ?_
  refine call_X0_has dX0_link_2 lk_X0_37 ⟨Nat.le_of_ble_eq_true rfl, Nat.le_of_ble_eq_true rfl, Nat.le_of_ble_eq_true rfl⟩ (by assumption) (Nat.le_of_ble_eq_true rfl) ?_
  refine c_X0_hasN ea hN hi ?_
  refine okN_if_eq (tgt := 33) dX0_link_5 (by decide) (by omega) (fun c1 => ?_) (fun c1 => ?_)
  · exact absurd c1 (by decide)
  refine ok_aload_n dX0_link_8 rfl rfl ?_
  refine ok_iload_n dX0_link_9 rfl ?_
  refine call_X0_has dX0_link_10 lk_X0_37 ⟨Nat.le_of_ble_eq_true rfl, Nat.le_of_ble_eq_true rfl, Nat.le_of_ble_eq_true rfl⟩ (by assumption) (Nat.le_of_ble_eq_true rfl) ?_
  refine c_X0_hasN ea hN ht ?_
  refine okN_if_eq (tgt := 33) dX0_link_13 (by decide) (by omega) (fun c2 => ?_) (fun c2 => ?_)
  · exact absurd c2 (by decide)
  refine ok_aload_n dX0_link_16 rfl rfl ?_
  refine ok_get dX0_link_17 fl_X0_21 (by assumption) (by rfl) ?_
  refine ok_iload_n dX0_link_20 rfl ?_
  refine ok_iload_n dX0_link_21 rfl ?_
  first | refine okN_iast dX0_link_22 (by assumption) (by omega) (by decide) (fun h1 hx1 he1 => ?_) | refine okC_iast dX0_link_22 (by assumption) (by omega) (by omega) (by omega) (fun h1 hx1 he1 => ?_) | refine okF_iast dX0_link_22 (by assumption) (by omega) (by omega) (fun h1 hx1 he1 => ?_) | refine okN_kast dX0_link_22 (by assumption) (by omega) (by decide) (fun h1 hx1 he1 => ?_)
  have ea1 := hx1.at (by simp [h01]) ea
  have r21 := r2.at hx1 (by simp [Ne.symm h12])
  refine ok_aload_n dX0_link_23 rfl rfl ?_
  refine ok_get dX0_link_24 fl_X0_25 (by assumption) (by rfl) ?_
  refine ok_iload_n dX0_link_27 rfl ?_
  refine ok_dup2 dX0_link_28 rfl rfl ?_
  first | refine okN_iald dX0_link_29 (by assumption) (by omega) (by decide) ?_ | refine okF_iald dX0_link_29 (by assumption) (by omega) (by omega) ?_ | refine okN_kald dX0_link_29 (by assumption) (by omega) (by decide) ?_
  refine ok_iconst (v := nI 1) dX0_link_30 (by decide) ?_
  first | refine okN_iadd dX0_link_31 ?_ | refine ok_iadd dX0_link_31 ?_
  first | refine okN_iast dX0_link_32 (by assumption) (by omega) (by decide) (fun h2 hx2 he2 => ?_) | refine okC_iast dX0_link_32 (by assumption) (by omega) (by omega) (by omega) (fun h2 hx2 he2 => ?_) | refine okF_iast dX0_link_32 (by assumption) (by omega) (by omega) (fun h2 hx2 he2 => ?_) | refine okN_kast dX0_link_32 (by assumption) (by omega) (by decide) (fun h2 hx2 he2 => ?_)
  refine ok_vret dX0_link_33 rfl ⟨Nat.le_of_ble_eq_true rfl, Nat.le_of_ble_eq_true rfl⟩ ?_
  exact k h2 (hx1.tr hx2 (by simp) (by simp)) (he1.at hx2 (by simp [h12])) he2
theorem l_X0_peel1 {s w o C : Nat} (hs : s < 76) (eN : N = NN s) (haw : a ≠ w) (hao : a ≠ o) (hwo : w ≠ o) (h1w : a1 ≠ w) (h1o : a1 ≠ o)
    (k : ∀ h', hx [o] h h' → hc h' a = some (chc N a1 a2 a3 a4 a5 rc ro gT lo gB) → Af h' w N N (gt C) → Af h' o N N (gt (o1S C N).1) → ∀ z, Ok g MX0_peel (m_J g MX0_peel Q) 35 [some (.ref a), some (.ref w), some (.ref o), some (.int (nI (o1S C N).2)), z, none] [] h' 0 0) :
    ∀ (d i : Nat) (h1 : mH), i + d = N → hx [o] h h1 → hc h1 a = some (chc N a1 a2 a3 a4 a5 rc ro gT lo gB) → Af h1 w N N (gt C) → Af h1 o N N (gt (o1S C i).1) → Ok g MX0_peel (m_J g MX0_peel Q) 5 [some (.ref a), some (.ref w), some (.ref o), some (.int (nI (o1S C i).2)), some (.int (nI i)), none] [] h1 0 0 := by
  have hN := NN_lt hs
  rw [← eN] at hN
  intro d
  induction d with
  | zero =>
    intro i h1 hi x1 ea rw1 ro1
    have ei : i = N := by omega
    subst ei
    refine ok_iload dX0_peel_5 rfl ?_
    refine ok_aload_n dX0_peel_7 rfl rfl ?_
    refine ok_get dX0_peel_8 fl_X0_15 (by assumption) (by rfl) ?_
    refine okN_icmp_ge (tgt := 35) dX0_peel_11 (by decide) (by omega) (by omega) (fun c1 => ?_) (fun c1 => ?_)
    · exact k h1 x1 ea rw1 ro1 _
    · exact absurd c1 (by omega)
  | succ d ih =>
    intro i h1 hi x1 ea rw1 ro1
    have le := o1S_le C i
    have nx1 := ih (i + 1)
    unfold o1S at nx1
    have g1 := gt_lt C i
    refine ok_iload dX0_peel_5 rfl ?_
    refine ok_aload_n dX0_peel_7 rfl rfl ?_
    refine ok_get dX0_peel_8 fl_X0_15 (by assumption) (by rfl) ?_
    refine okN_icmp_ge (tgt := 35) dX0_peel_11 (by decide) (by omega) (by omega) (fun c1 => ?_) (fun c1 => ?_)
    · exact absurd c1 (by omega)
    · refine ok_aload_n dX0_peel_14 rfl rfl ?_
      refine ok_iload dX0_peel_15 rfl ?_
      first | refine okN_iald dX0_peel_17 (by assumption) (by omega) (by decide) ?_ | refine okF_iald dX0_peel_17 (by assumption) (by omega) (by omega) ?_ | refine okN_kald dX0_peel_17 (by assumption) (by omega) (by decide) ?_
      refine okN_if_ne (tgt := 29) dX0_peel_18 (by decide) (by omega) (fun c2 => ?_) (fun c2 => ?_)
      · rw [if_neg (by omega)] at nx1
        refine okN_inc dX0_peel_29 rfl (st_6_4 rfl) (Nat.le_of_ble_eq_true rfl) ?_
        refine ok_goto (tgt := 5) dX0_peel_32 (by decide) ?_
        exact nx1 h1 (by omega) x1 ea rw1 ro1
      · rw [if_pos c2] at nx1
        refine ok_aload_n dX0_peel_21 rfl rfl ?_
        refine ok_iload_n dX0_peel_22 rfl ?_
        refine ok_iload dX0_peel_23 rfl ?_
        first | refine okN_iast dX0_peel_25 (by assumption) (by omega) (by decide) (fun h2 hx2 he2 => ?_) | refine okC_iast dX0_peel_25 (by assumption) (by omega) (by omega) (by omega) (fun h2 hx2 he2 => ?_) | refine okF_iast dX0_peel_25 (by assumption) (by omega) (by omega) (fun h2 hx2 he2 => ?_) | refine okN_kast dX0_peel_25 (by assumption) (by omega) (by decide) (fun h2 hx2 he2 => ?_)
        refine okN_inc dX0_peel_26 rfl (st_6_3 rfl) (Nat.le_of_ble_eq_true rfl) ?_
        refine okN_inc dX0_peel_29 rfl (st_6_4 rfl) (Nat.le_of_ble_eq_true rfl) ?_
        refine ok_goto (tgt := 5) dX0_peel_32 (by decide) ?_
        exact nx1 h2 (by omega) (x1.tr' hx2) (hx2.at (by simp [hao]) ea) (rw1.at hx2 (by simp [hwo])) he2
theorem l_X0_peel2 {s w o : Nat} (hs : s < 76) (eN : N = NN s) (haw : a ≠ w) (hao : a ≠ o) (hwo : w ≠ o) (h1w : a1 ≠ w) (h1o : a1 ≠ o) {R : Nat × Nat × Nat}
    (k : ∀ h', hx [w, o] h h' → Af h' w N N (gt R.1) → Af h' o N N (gt R.2.1) → R.2.2 ≤ N → (∀ j, j < R.2.2 → gt R.2.1 j < N) → Q (some (.int (nI R.2.2))) h') :
    ∀ (f i W O p : Nat) (h1 : mH) (z : Option Value), pe2 s N f i W O p = some R → i ≤ p → p ≤ N → (∀ j, j < p → gt O j < N) → hx [w, o] h h1 → hc h1 a = some (chc N a1 a2 a3 a4 a5 rc ro gT lo gB) → Af h1 a1 N N (nx s) → Af h1 w N N (gt W) → Af h1 o N N (gt O) →
    Ok g MX0_peel (m_J g MX0_peel Q) 38 [some (.ref a), some (.ref w), some (.ref o), some (.int (nI p)), some (.int (nI i)), z] [] h1 0 0 := by
  have hN := NN_lt hs
  rw [← eN] at hN
  intro f
  induction f with
  | zero => intro i W O p h1 z hf; cases hf
  | succ f ih =>
    intro i W O p h1 z hf hip hp hO x1 ea r1 rw1 ro1
    unfold pe2 at hf
    refine ok_iload dX0_peel_38 rfl ?_
    refine ok_iload_n dX0_peel_40 rfl ?_
    refine okN_icmp_ge (tgt := 101) dX0_peel_41 (by decide) (by omega) (by omega) (fun c1 => ?_) (fun c1 => ?_)
    · rw [if_neg (by omega)] at hf
      cases hf
      refine ok_iload_n dX0_peel_101 rfl ?_
      refine ok_iret dX0_peel_102 rfl rfl ⟨Nat.le_of_ble_eq_true rfl, Nat.le_of_ble_eq_true rfl⟩ ?_
      exact k h1 x1 rw1 ro1 hp hO
    · rw [if_pos c1] at hf
      have go := hO i c1
      have gk := (ch_k hs (k := gt O i) (by omega)).2.2.2.2.2.2.2.2.2.2
      rw [← eN] at gk
      have gw := gt_lt W (nx s (gt O i))
      refine ok_iload dX0_peel_44 rfl ?_
      refine ok_aload_n dX0_peel_46 rfl rfl ?_
      refine ok_get dX0_peel_47 fl_X0_15 (by assumption) (by rfl) ?_
      refine okN_icmp_ge (tgt := 101) dX0_peel_50 (by decide) (by omega) (by omega) (fun c2 => ?_) (fun c2 => ?_)
      · exact absurd c2 (by omega)
      by_cases c3 : gt W (nx s (gt O i)) = 0
      · rw [if_pos c3] at hf; cases hf
      · rw [if_neg c3] at hf
        refine ok_aload_n dX0_peel_53 rfl rfl ?_
        refine ok_get dX0_peel_54 fl_X0_21 (by assumption) (by rfl) ?_
        refine ok_aload_n dX0_peel_57 rfl rfl ?_
        refine ok_iload dX0_peel_58 rfl ?_
        first | refine okN_iald dX0_peel_60 (by assumption) (by omega) (by decide) ?_ | refine okF_iald dX0_peel_60 (by assumption) (by omega) (by omega) ?_ | refine okN_kald dX0_peel_60 (by assumption) (by omega) (by decide) ?_
        first | refine okN_iald dX0_peel_61 (by assumption) (by omega) (by decide) ?_ | refine okF_iald dX0_peel_61 (by assumption) (by omega) (by omega) ?_ | refine okN_kald dX0_peel_61 (by assumption) (by omega) (by decide) ?_
        refine ok_istore dX0_peel_62 (st_6_5 rfl) (Nat.le_of_ble_eq_true rfl) ?_
        refine ok_aload_n dX0_peel_64 rfl rfl ?_
        refine ok_iload dX0_peel_65 rfl ?_
        refine ok_dup2 dX0_peel_67 rfl rfl ?_
        first | refine okN_iald dX0_peel_68 (by assumption) (by omega) (by decide) ?_ | refine okF_iald dX0_peel_68 (by assumption) (by omega) (by omega) ?_ | refine okN_kald dX0_peel_68 (by assumption) (by omega) (by decide) ?_
        refine ok_iconst (v := nI 1) dX0_peel_69 (by decide) ?_
        first | refine okN_isub dX0_peel_70 (by omega) ?_ | refine ok_isub dX0_peel_70 ?_
        first | refine okN_iast dX0_peel_71 (by assumption) (by omega) (by decide) (fun h2 hx2 he2 => ?_) | refine okC_iast dX0_peel_71 (by assumption) (by omega) (by omega) (by omega) (fun h2 hx2 he2 => ?_) | refine okF_iast dX0_peel_71 (by assumption) (by omega) (by omega) (fun h2 hx2 he2 => ?_) | refine okN_kast dX0_peel_71 (by assumption) (by omega) (by decide) (fun h2 hx2 he2 => ?_)
        have ea2 := hx2.at (by simp [haw]) ea
        have r12 := r1.at hx2 (by simp [h1w])
        have ro2 := ro1.at hx2 (by simp [Ne.symm hwo])
        have gw2 : gt (st W (nx s (gt O i)) (gt W (nx s (gt O i)) - 1)) (nx s (gt O i)) = gt W (nx s (gt O i)) - 1 := gt_st_eq _ _ (by omega)
        refine ok_aload_n dX0_peel_72 rfl rfl ?_
        refine ok_iload dX0_peel_73 rfl ?_
        first | refine okN_iald dX0_peel_75 (by assumption) (by omega) (by decide) ?_ | refine okF_iald dX0_peel_75 (by assumption) (by omega) (by omega) ?_ | refine okN_kald dX0_peel_75 (by assumption) (by omega) (by decide) ?_
        rw [gw2]
        refine okN_if_ne (tgt := 95) dX0_peel_76 (by decide) (by omega) (fun c4 => ?_) (fun c4 => ?_)
        · rw [if_neg (by omega)] at hf
          refine okN_inc dX0_peel_95 rfl (st_6_4 rfl) (Nat.le_of_ble_eq_true rfl) ?_
          refine ok_goto (tgt := 38) dX0_peel_98 (by decide) ?_
          exact ih (i + 1) _ _ _ h2 _ hf (by omega) hp hO (x1.tr hx2 (by simp) (by simp)) ea2 r12 he2 ro2
        · refine ok_iload_n dX0_peel_79 rfl ?_
          refine ok_aload_n dX0_peel_80 rfl rfl ?_
          refine ok_get dX0_peel_81 fl_X0_15 (by assumption) (by rfl) ?_
          refine okN_icmp_ge (tgt := 95) dX0_peel_84 (by decide) (by omega) (by omega) (fun c5 => ?_) (fun c5 => ?_)
          · rw [if_neg (by omega)] at hf
            refine okN_inc dX0_peel_95 rfl (st_6_4 rfl) (Nat.le_of_ble_eq_true rfl) ?_
            refine ok_goto (tgt := 38) dX0_peel_98 (by decide) ?_
            exact ih (i + 1) _ _ _ h2 _ hf (by omega) hp hO (x1.tr hx2 (by simp) (by simp)) ea2 r12 he2 ro2
          · rw [if_pos (by omega)] at hf
            refine ok_aload_n dX0_peel_87 rfl rfl ?_
            refine ok_iload_n dX0_peel_88 rfl ?_
            refine ok_iload dX0_peel_89 rfl ?_
            first | refine okN_iast dX0_peel_91 (by assumption) (by omega) (by decide) (fun h3 hx3 he3 => ?_) | refine okC_iast dX0_peel_91 (by assumption) (by omega) (by omega) (by omega) (fun h3 hx3 he3 => ?_) | refine okF_iast dX0_peel_91 (by assumption) (by omega) (by omega) (fun h3 hx3 he3 => ?_) | refine okN_kast dX0_peel_91 (by assumption) (by omega) (by decide) (fun h3 hx3 he3 => ?_)
            refine okN_inc dX0_peel_92 rfl (st_6_3 rfl) (Nat.le_of_ble_eq_true rfl) ?_
            refine okN_inc dX0_peel_95 rfl (st_6_4 rfl) (Nat.le_of_ble_eq_true rfl) ?_
            refine ok_goto (tgt := 38) dX0_peel_98 (by decide) ?_
            refine ih (i + 1) _ _ _ h3 _ hf (by omega) (by omega) (fun j hj => ?_) ((x1.tr hx2 (C := [w, o]) (by simp) (by simp)).tr hx3 (by simp) (by simp)) (hx3.at (by simp [hao]) ea2) (r12.at hx3 (by simp [h1o])) (he2.at hx3 (by simp [hwo])) he3
            by_cases e : j = p
            · rw [e, gt_st_eq _ _ (by omega)]; exact gk
            · rw [gt_st_ne _ _ (by omega) e]; exact hO j (by omega)
theorem c_X0_peel {s w o : Nat} {p : Nat × Nat × Nat} (hs : s < 76) (eN : N = NN s) (haw : a ≠ w) (hao : a ≠ o) (hwo : w ≠ o) (h1w : a1 ≠ w) (h1o : a1 ≠ o) (hp : peM s = some p) (ea : hc h a = some (chc N a1 a2 a3 a4 a5 rc ro gT lo gB)) (r1 : Af h a1 N N (nx s)) (r2 : Af h w N N (gt (coS s N))) (r3 : Af h o N N (gt 0))
    (k : ∀ h', hx [w, o] h h' → Af h' w N N (gt p.1) → Af h' o N N (gt p.2.1) → p.2.2 ≤ N → (∀ j, j < p.2.2 → gt p.2.1 j < N) → Q (some (.int (nI p.2.2))) h') :
    Ok g MX0_peel (m_J g MX0_peel Q) 0 [some (.ref a), some (.ref w), some (.ref o), none, none, none] [] h 0 0 := by
  have hN := NN_lt hs
  unfold peM at hp
  subst eN
  refine ok_iconst (v := nI 0) dX0_peel_0 (by decide) ?_
  refine ok_istore_n dX0_peel_1 (st_6_3 rfl) (Nat.le_of_ble_eq_true rfl) ?_
  refine ok_iconst (v := nI 0) dX0_peel_2 (by decide) ?_
  refine ok_istore dX0_peel_3 (st_6_4 rfl) (Nat.le_of_ble_eq_true rfl) ?_
  refine l_X0_peel1 (h := h) (C := coS s (NN s)) hs rfl haw hao hwo h1w h1o (fun h1 x1 ea1 rw1 ro1 z => ?_) (NN s) 0 h (by omega) hx.rf ea r2 r3
  refine ok_iconst (v := nI 0) dX0_peel_35 (by decide) ?_
  refine ok_istore dX0_peel_36 (st_6_4 rfl) (Nat.le_of_ble_eq_true rfl) ?_
  exact l_X0_peel2 (h := h) hs rfl haw hao hwo h1w h1o k _ _ _ _ _ h1 _ hp (by omega) (o1S_le _ _) (o1S_in _ _ hN) (x1.mono (by simp)) ea1 (r1.at x1 (by simp [h1o])) rw1 ro1
end CHART
