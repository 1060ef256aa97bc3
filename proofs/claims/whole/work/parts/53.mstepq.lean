/-! ===== the second program's calls on steps, rounds ===== -/
theorem it_nx (s : Nat) : ∀ j k, it s j (nx s k) = nx s (it s j k)
  | 0, k => rfl
  | j + 1, k => by
    show nx s (it s j (nx s k)) = nx s (nx s (it s j k))
    rw [it_nx s j k]
theorem itF_it (s : Nat) : ∀ j k, itF s j k = it s j k
  | 0, k => rfl
  | j + 1, k => by
    show itF s j (nx s k) = nx s (it s j k)
    rw [itF_it s j, it_nx]
theorem it_add (s : Nat) (a : Nat) : ∀ b k, it s (a + b) k = it s b (it s a k)
  | 0, k => rfl
  | b + 1, k => by
    show nx s (it s (a + b) k) = nx s (it s b (it s a k))
    rw [it_add s a b]
theorem fs_last (s gl : Nat) : ∀ (d t k : Nat), (it s d k ≠ gl ∨ ∃ u, u < d ∧ it s u k = it s d k) → fsI s gl (d + 1) t k = fsI s gl d t k
  | 0, t, k, hh => by
    rcases hh with e | ⟨u, hu, -⟩
    · show (if k = gl then nI t else -9) = -9
      have e' : k ≠ gl := e
      rw [if_neg e']
    · omega
  | d + 1, t, k, hh => by
    show (if k = gl then nI t else fsI s gl (d + 1) (t + 1) (nx s k)) = (if k = gl then nI t else fsI s gl d (t + 1) (nx s k))
    by_cases c : k = gl
    · rw [if_pos c, if_pos c]
    · rw [if_neg c, if_neg c]
      refine fs_last s gl d (t + 1) (nx s k) ?_
      rcases hh with e | ⟨u, hu, e⟩
      · left
        rw [it_nx]
        exact e
      · cases u with
        | zero =>
          left
          rw [it_nx]
          intro z
          exact c (by rw [← z]; exact e)
        | succ u =>
          right
          refine ⟨u, by omega, ?_⟩
          rw [it_nx, it_nx]
          exact e
theorem fs_N {s k : Nat} (hs : s < 76) (hk : k < NN s) (gl : Nat) : fsI s gl (NN s + 1) 0 k = fsI s gl (NN s) 0 k := by
  obtain ⟨c1, c2, c3, c4, c5, c6, c7, c8, c9, c10, c11⟩ := ch_k hs hk
  refine fs_last s gl _ _ _ (Or.inr ⟨NN s - c_be s k, by omega, ?_⟩)
  have l1 := it_lt hs hk (NN s - c_be s k)
  obtain ⟨a1, a2, a3⟩ := it_inv hs hk (NN s - c_be s k)
  have r := ((ch_k hs l1).1 (by omega)).2.1
  rw [a1, itF_it, ← it_add, show NN s - c_be s k + c_be s k = NN s by omega] at r
  exact r.symm
theorem mxN_le {f : Nat → Nat} {b : Nat} : ∀ k, (∀ j, j < k → f j ≤ b) → mxN f k ≤ b
  | 0, _ => Nat.zero_le _
  | k + 1, h => mx_le (mxN_le k (fun j hj => h j (by omega))) (h k (by omega))
def rdP (s x k : Nat) : Bool := decide ((x = 0 ∧ c_le s k = k) ∨ (x = 1 ∧ c_ta s k = 0) ∨ (x = 3 ∧ c_co s k = 0))
theorem cnt_cg {P P' : Nat → Bool} : ∀ k, (∀ j, P j = P' j) → cntF P k = cntF P' k
  | 0, _ => rfl
  | k + 1, h => by unfold cntF; rw [cnt_cg k h, h k]
theorem rd_eq {s x : Nat} (hs : s < 76) (hx : x < 5) : (if x = 2 ∨ x = 4 then mxN (if x = 2 then c_ta s else c_be s) (NN s) else cntF (rdP s x) (NN s)) = rnd s x := by
  obtain ⟨a1, a2, a3, a4, a5⟩ := ch_cnt hs
  rcases (show x = 0 ∨ x = 1 ∨ x = 2 ∨ x = 3 ∨ x = 4 by omega) with rfl | rfl | rfl | rfl | rfl
  · rw [if_neg (by omega)]
    show _ = (CH s).2.1
    rw [← a1]
    refine cnt_cg _ (fun j => ?_)
    by_cases c : c_le s j = j <;> simp [rdP, c]
  · rw [if_neg (by omega)]
    show _ = (CH s).2.2.1
    rw [← a2]
    refine cnt_cg _ (fun j => ?_)
    by_cases c : c_ta s j = 0 <;> simp [rdP, c]
  · rw [if_pos (by omega), if_pos rfl]
    exact a3
  · rw [if_neg (by omega)]
    show _ = (CH s).2.2.2.2.1
    rw [← a4]
    refine cnt_cg _ (fun j => ?_)
    by_cases c : c_co s j = 0 <;> simp [rdP, c]
  · rw [if_pos (by omega), if_neg (by omega)]
    exact a5
section MSTEPQ
variable {g : mG} {h : mH} {Q : Option Value → mH → Prop} {S : ST} {sz lz : Nat} {li kd : Int32} {fi : Nat} {wk : Int64} {ru s : Nat}
theorem c_X5_kindOf {q : Nat} (hs : s < 76) (hq : q < NN s) (e0 : hc h 46 = some (mdo fi wk ru sz li lz kd)) (st1 : StA h s) (k : Q (some (.int (nI (kdI s q)))) h) : Ok g MX5_kindOf (m_J g MX5_kindOf Q) 0 [some (.ref 46), some (.int (nI q))] [] h 0 0 := by
  obtain ⟨s54, s55, s56, s57, s58⟩ := st1
  obtain ⟨c_1, c_2, c_3, c_4, c_5, c_6, c_7, c_8, c_9, c_10, c_11⟩ := ch_k hs hq
  have hN := NN_lt hs
  unfold kdI at k
  refine ok_aload_n dX5_kindOf_0 rfl rfl ?_
  refine ok_get dX5_kindOf_1 fl_X5_35 (by assumption) (by rfl) ?_
  refine ok_iload_n dX5_kindOf_4 rfl ?_
  first | refine okN_iald dX5_kindOf_5 (by assumption) (by omega) (by decide) ?_ | refine okF_iald dX5_kindOf_5 (by assumption) (by omega) (by omega) ?_ | refine okN_kald dX5_kindOf_5 (by assumption) (by omega) (by decide) ?_
  refine ok_iload_n dX5_kindOf_6 rfl ?_
  refine okN_icmp_ne (tgt := 14) dX5_kindOf_7 (by decide) (by omega) (by omega) (fun c1 => ?_) (fun c1 => ?_)
  · refine ok_aload_n dX5_kindOf_14 rfl rfl ?_
    refine ok_get dX5_kindOf_15 fl_X5_41 (by assumption) (by rfl) ?_
    refine ok_iload_n dX5_kindOf_18 rfl ?_
    first | refine okN_iald dX5_kindOf_19 (by assumption) (by omega) (by decide) ?_ | refine okF_iald dX5_kindOf_19 (by assumption) (by omega) (by omega) ?_ | refine okN_kald dX5_kindOf_19 (by assumption) (by omega) (by decide) ?_
    refine okN_if_ne (tgt := 27) dX5_kindOf_20 (by decide) (by omega) (fun c2 => ?_) (fun c2 => ?_)
    · refine ok_aload_n dX5_kindOf_27 rfl rfl ?_
      refine ok_get dX5_kindOf_28 fl_X5_38 (by assumption) (by rfl) ?_
      refine ok_iload_n dX5_kindOf_31 rfl ?_
      first | refine okN_iald dX5_kindOf_32 (by assumption) (by omega) (by decide) ?_ | refine okF_iald dX5_kindOf_32 (by assumption) (by omega) (by omega) ?_ | refine okN_kald dX5_kindOf_32 (by assumption) (by omega) (by decide) ?_
      refine okN_if_ne (tgt := 40) dX5_kindOf_33 (by decide) (by omega) (fun c3 => ?_) (fun c3 => ?_)
      · rw [if_neg (by omega), if_neg c1, if_neg (by omega)] at k
        refine ok_iconst (v := nI 0) dX5_kindOf_40 (by decide) ?_
        refine ok_iret dX5_kindOf_41 rfl rfl ⟨Nat.le_of_ble_eq_true rfl, Nat.le_of_ble_eq_true rfl⟩ ?_
        exact k
      · rw [if_pos c3] at k
        refine ok_iconst (v := nI 3) dX5_kindOf_36 (by decide) ?_
        refine ok_goto (tgt := 41) dX5_kindOf_37 (by decide) ?_
        refine ok_iret dX5_kindOf_41 rfl rfl ⟨Nat.le_of_ble_eq_true rfl, Nat.le_of_ble_eq_true rfl⟩ ?_
        exact k
    · have := (c_1 c2).2.2
      rw [if_neg this, if_neg c1, if_pos c2] at k
      refine ok_iconst (v := nI 1) dX5_kindOf_23 (by decide) ?_
      refine ok_goto (tgt := 41) dX5_kindOf_24 (by decide) ?_
      refine ok_iret dX5_kindOf_41 rfl rfl ⟨Nat.le_of_ble_eq_true rfl, Nat.le_of_ble_eq_true rfl⟩ ?_
      exact k
  · have t0 := c_7 c1
    rw [if_neg (c_1 t0).2.2, if_pos c1] at k
    refine ok_iconst (v := nI 2) dX5_kindOf_10 (by decide) ?_
    refine ok_goto (tgt := 41) dX5_kindOf_11 (by decide) ?_
    refine ok_iret dX5_kindOf_41 rfl rfl ⟨Nat.le_of_ble_eq_true rfl, Nat.le_of_ble_eq_true rfl⟩ ?_
    exact k
theorem p_X5_kind {p : Int32} (I : IM h S) (k : ∀ h', fM h h' → IM h' (sp_kind S p).2 → Q (some (.int (sp_kind S p).1)) h') : Ok g MX5_kind (m_J g MX5_kind Q) 0 [some (.ref 46), some (.int p), none] [] h 0 0 := by
  obtain ⟨sz, li, lz, kd, I⟩ := I
  have e0 := I.1
  unfold sp_kind ofp at k
  refine ok_aload_n dX5_kind_0 rfl rfl ?_
  refine ok_iload_n dX5_kind_1 rfl ?_
  refine call_X5_stepped dX5_kind_2 lk_X5_143 ⟨Nat.le_of_ble_eq_true rfl, Nat.le_of_ble_eq_true rfl, Nat.le_of_ble_eq_true rfl⟩ (by assumption) (Nat.le_of_ble_eq_true rfl) ?_
  refine c_X5_stepped I (fun q => ?_) (fun j h' q1 q2 x' I' => ?_) (fun j h1 q1 q2 q3 q4 x1 I1 st1 => ?_)
  · rw [q] at k
    refine ok_istore_n dX5_kind_5 (st_3_2 rfl) (Nat.le_of_ble_eq_true rfl) ?_
    refine ok_iload_n dX5_kind_6 rfl ?_
    refine ok_if_ge (tgt := 14) dX5_kind_7 (by decide) (fun c2 => ?_) (fun c2 => ?_)
    · exact absurd c2 (by decide)
    · refine ok_iload_n dX5_kind_10 rfl ?_
      refine ok_goto (tgt := 19) dX5_kind_11 (by decide) ?_
      refine ok_iret dX5_kind_19 rfl rfl ⟨Nat.le_of_ble_eq_true rfl, Nat.le_of_ble_eq_true rfl⟩ ?_
      exact k h fM.rf ⟨_, _, _, _, I⟩
  · rw [q1] at k
    dsimp only at k
    rw [if_neg (by rw [q2]; decide)] at k
    refine ok_istore_n dX5_kind_5 (st_3_2 rfl) (Nat.le_of_ble_eq_true rfl) ?_
    refine ok_iload_n dX5_kind_6 rfl ?_
    refine ok_if_ge (tgt := 14) dX5_kind_7 (by decide) (fun c2 => ?_) (fun c2 => ?_)
    · exact absurd c2 (by decide)
    · refine ok_iload_n dX5_kind_10 rfl ?_
      refine ok_goto (tgt := 19) dX5_kind_11 (by decide) ?_
      refine ok_iret dX5_kind_19 rfl rfl ⟨Nat.le_of_ble_eq_true rfl, Nat.le_of_ble_eq_true rfl⟩ ?_
      exact k h' (x'.m (by decide)) ⟨_, _, _, _, I'⟩
  · rw [q1] at k
    dsimp only at k
    rw [if_pos q4] at k
    subst q3
    have e01 := I1.1
    have hs2 : sno S j < 76 := (nb_NN (I.2.2.2.2.2.2.1 j q2 q4) I.2.2.2.2.2.2.2).1
    have hk2 : kno S j < NN (sno S j) := (nb_NN (I.2.2.2.2.2.2.1 j q2 q4) I.2.2.2.2.2.2.2).2
    have hN2 := NN_lt hs2
    obtain ⟨s54, s55, s56, s57, s58⟩ := id st1
    refine ok_istore_n dX5_kind_5 (st_3_2 rfl) (Nat.le_of_ble_eq_true rfl) ?_
    refine ok_iload_n dX5_kind_6 rfl ?_
    refine okN_if_ge (tgt := 14) dX5_kind_7 (by decide) (by omega) ?_
    refine ok_aload_n dX5_kind_14 rfl rfl ?_
    refine ok_iload_n dX5_kind_15 rfl ?_
    refine call_X5_kindOf dX5_kind_16 lk_X5_146 ⟨Nat.le_of_ble_eq_true rfl, Nat.le_of_ble_eq_true rfl, Nat.le_of_ble_eq_true rfl⟩ (by assumption) (Nat.le_of_ble_eq_true rfl) ?_
    refine c_X5_kindOf hs2 hk2 e01 st1 ?_
    refine ok_iret dX5_kind_19 rfl rfl ⟨Nat.le_of_ble_eq_true rfl, Nat.le_of_ble_eq_true rfl⟩ ?_
    exact k h1 (x1.m (by decide)) ⟨_, _, _, _, I1⟩
theorem p_X5_tail {p : Int32} (I : IM h S) (k : ∀ h', fM h h' → IM h' (sp_tail S p).2 → Q (some (.int (sp_tail S p).1)) h') : Ok g MX5_tail (m_J g MX5_tail Q) 0 [some (.ref 46), some (.int p), none] [] h 0 0 := by
  obtain ⟨sz, li, lz, kd, I⟩ := I
  have e0 := I.1
  unfold sp_tail ofp at k
  refine ok_aload_n dX5_tail_0 rfl rfl ?_
  refine ok_iload_n dX5_tail_1 rfl ?_
  refine call_X5_stepped dX5_tail_2 lk_X5_143 ⟨Nat.le_of_ble_eq_true rfl, Nat.le_of_ble_eq_true rfl, Nat.le_of_ble_eq_true rfl⟩ (by assumption) (Nat.le_of_ble_eq_true rfl) ?_
  refine c_X5_stepped I (fun q => ?_) (fun j h' q1 q2 x' I' => ?_) (fun j h1 q1 q2 q3 q4 x1 I1 st1 => ?_)
  · rw [q] at k
    refine ok_istore_n dX5_tail_5 (st_3_2 rfl) (Nat.le_of_ble_eq_true rfl) ?_
    refine ok_iload_n dX5_tail_6 rfl ?_
    refine ok_if_ge (tgt := 14) dX5_tail_7 (by decide) (fun c2 => ?_) (fun c2 => ?_)
    · exact absurd c2 (by decide)
    · refine ok_iload_n dX5_tail_10 rfl ?_
      refine ok_goto (tgt := 20) dX5_tail_11 (by decide) ?_
      refine ok_iret dX5_tail_20 rfl rfl ⟨Nat.le_of_ble_eq_true rfl, Nat.le_of_ble_eq_true rfl⟩ ?_
      exact k h fM.rf ⟨_, _, _, _, I⟩
  · rw [q1] at k
    dsimp only at k
    rw [if_neg (by rw [q2]; decide)] at k
    refine ok_istore_n dX5_tail_5 (st_3_2 rfl) (Nat.le_of_ble_eq_true rfl) ?_
    refine ok_iload_n dX5_tail_6 rfl ?_
    refine ok_if_ge (tgt := 14) dX5_tail_7 (by decide) (fun c2 => ?_) (fun c2 => ?_)
    · exact absurd c2 (by decide)
    · refine ok_iload_n dX5_tail_10 rfl ?_
      refine ok_goto (tgt := 20) dX5_tail_11 (by decide) ?_
      refine ok_iret dX5_tail_20 rfl rfl ⟨Nat.le_of_ble_eq_true rfl, Nat.le_of_ble_eq_true rfl⟩ ?_
      exact k h' (x'.m (by decide)) ⟨_, _, _, _, I'⟩
  · rw [q1] at k
    dsimp only at k
    rw [if_pos q4] at k
    subst q3
    have e01 := I1.1
    have hs2 : sno S j < 76 := (nb_NN (I.2.2.2.2.2.2.1 j q2 q4) I.2.2.2.2.2.2.2).1
    have hk2 : kno S j < NN (sno S j) := (nb_NN (I.2.2.2.2.2.2.1 j q2 q4) I.2.2.2.2.2.2.2).2
    have hN2 := NN_lt hs2
    obtain ⟨s54, s55, s56, s57, s58⟩ := id st1
    refine ok_istore_n dX5_tail_5 (st_3_2 rfl) (Nat.le_of_ble_eq_true rfl) ?_
    refine ok_iload_n dX5_tail_6 rfl ?_
    refine okN_if_ge (tgt := 14) dX5_tail_7 (by decide) (by omega) ?_
    refine ok_aload_n dX5_tail_14 rfl rfl ?_
    refine ok_get dX5_tail_15 fl_X5_41 (by assumption) (by rfl) ?_
    refine ok_iload_n dX5_tail_18 rfl ?_
    first | refine okN_iald dX5_tail_19 (by assumption) (by omega) (by decide) ?_ | refine okF_iald dX5_tail_19 (by assumption) (by omega) (by omega) ?_ | refine okN_kald dX5_tail_19 (by assumption) (by omega) (by decide) ?_
    refine ok_iret dX5_tail_20 rfl rfl ⟨Nat.le_of_ble_eq_true rfl, Nat.le_of_ble_eq_true rfl⟩ ?_
    exact k h1 (x1.m (by decide)) ⟨_, _, _, _, I1⟩
theorem p_X5_beat {p : Int32} (I : IM h S) (k : ∀ h', fM h h' → IM h' (sp_beat S p).2 → Q (some (.int (sp_beat S p).1)) h') : Ok g MX5_beat (m_J g MX5_beat Q) 0 [some (.ref 46), some (.int p), none] [] h 0 0 := by
  obtain ⟨sz, li, lz, kd, I⟩ := I
  have e0 := I.1
  unfold sp_beat ofp at k
  refine ok_aload_n dX5_beat_0 rfl rfl ?_
  refine ok_iload_n dX5_beat_1 rfl ?_
  refine call_X5_stepped dX5_beat_2 lk_X5_143 ⟨Nat.le_of_ble_eq_true rfl, Nat.le_of_ble_eq_true rfl, Nat.le_of_ble_eq_true rfl⟩ (by assumption) (Nat.le_of_ble_eq_true rfl) ?_
  refine c_X5_stepped I (fun q => ?_) (fun j h' q1 q2 x' I' => ?_) (fun j h1 q1 q2 q3 q4 x1 I1 st1 => ?_)
  · rw [q] at k
    refine ok_istore_n dX5_beat_5 (st_3_2 rfl) (Nat.le_of_ble_eq_true rfl) ?_
    refine ok_iload_n dX5_beat_6 rfl ?_
    refine ok_if_ge (tgt := 14) dX5_beat_7 (by decide) (fun c2 => ?_) (fun c2 => ?_)
    · exact absurd c2 (by decide)
    · refine ok_iload_n dX5_beat_10 rfl ?_
      refine ok_goto (tgt := 20) dX5_beat_11 (by decide) ?_
      refine ok_iret dX5_beat_20 rfl rfl ⟨Nat.le_of_ble_eq_true rfl, Nat.le_of_ble_eq_true rfl⟩ ?_
      exact k h fM.rf ⟨_, _, _, _, I⟩
  · rw [q1] at k
    dsimp only at k
    rw [if_neg (by rw [q2]; decide)] at k
    refine ok_istore_n dX5_beat_5 (st_3_2 rfl) (Nat.le_of_ble_eq_true rfl) ?_
    refine ok_iload_n dX5_beat_6 rfl ?_
    refine ok_if_ge (tgt := 14) dX5_beat_7 (by decide) (fun c2 => ?_) (fun c2 => ?_)
    · exact absurd c2 (by decide)
    · refine ok_iload_n dX5_beat_10 rfl ?_
      refine ok_goto (tgt := 20) dX5_beat_11 (by decide) ?_
      refine ok_iret dX5_beat_20 rfl rfl ⟨Nat.le_of_ble_eq_true rfl, Nat.le_of_ble_eq_true rfl⟩ ?_
      exact k h' (x'.m (by decide)) ⟨_, _, _, _, I'⟩
  · rw [q1] at k
    dsimp only at k
    rw [if_pos q4] at k
    subst q3
    have e01 := I1.1
    have hs2 : sno S j < 76 := (nb_NN (I.2.2.2.2.2.2.1 j q2 q4) I.2.2.2.2.2.2.2).1
    have hk2 : kno S j < NN (sno S j) := (nb_NN (I.2.2.2.2.2.2.1 j q2 q4) I.2.2.2.2.2.2.2).2
    have hN2 := NN_lt hs2
    obtain ⟨s54, s55, s56, s57, s58⟩ := id st1
    refine ok_istore_n dX5_beat_5 (st_3_2 rfl) (Nat.le_of_ble_eq_true rfl) ?_
    refine ok_iload_n dX5_beat_6 rfl ?_
    refine okN_if_ge (tgt := 14) dX5_beat_7 (by decide) (by omega) ?_
    refine ok_aload_n dX5_beat_14 rfl rfl ?_
    refine ok_get dX5_beat_15 fl_X5_44 (by assumption) (by rfl) ?_
    refine ok_iload_n dX5_beat_18 rfl ?_
    first | refine okN_iald dX5_beat_19 (by assumption) (by omega) (by decide) ?_ | refine okF_iald dX5_beat_19 (by assumption) (by omega) (by omega) ?_ | refine okN_kald dX5_beat_19 (by assumption) (by omega) (by decide) ?_
    refine ok_iret dX5_beat_20 rfl rfl ⟨Nat.le_of_ble_eq_true rfl, Nat.le_of_ble_eq_true rfl⟩ ?_
    exact k h1 (x1.m (by decide)) ⟨_, _, _, _, I1⟩
theorem p_X5_leader {p : Int32} (I : IM h S) (k : ∀ h', fM h h' → IM h' (sp_leader S p).2 → Q (some (.int (sp_leader S p).1)) h') : Ok g MX5_leader (m_J g MX5_leader Q) 0 [some (.ref 46), some (.int p), none] [] h 0 0 := by
  obtain ⟨sz, li, lz, kd, I⟩ := I
  have e0 := I.1
  unfold sp_leader ofp at k
  refine ok_aload_n dX5_leader_0 rfl rfl ?_
  refine ok_iload_n dX5_leader_1 rfl ?_
  refine call_X5_stepped dX5_leader_2 lk_X5_143 ⟨Nat.le_of_ble_eq_true rfl, Nat.le_of_ble_eq_true rfl, Nat.le_of_ble_eq_true rfl⟩ (by assumption) (Nat.le_of_ble_eq_true rfl) ?_
  refine c_X5_stepped I (fun q => ?_) (fun j h' q1 q2 x' I' => ?_) (fun j h1 q1 q2 q3 q4 x1 I1 st1 => ?_)
  · rw [q] at k
    refine ok_istore_n dX5_leader_5 (st_3_2 rfl) (Nat.le_of_ble_eq_true rfl) ?_
    refine ok_iload_n dX5_leader_6 rfl ?_
    refine ok_if_ge (tgt := 14) dX5_leader_7 (by decide) (fun c2 => ?_) (fun c2 => ?_)
    · exact absurd c2 (by decide)
    · refine ok_iload_n dX5_leader_10 rfl ?_
      refine ok_goto (tgt := 20) dX5_leader_11 (by decide) ?_
      refine ok_iret dX5_leader_20 rfl rfl ⟨Nat.le_of_ble_eq_true rfl, Nat.le_of_ble_eq_true rfl⟩ ?_
      exact k h fM.rf ⟨_, _, _, _, I⟩
  · rw [q1] at k
    dsimp only at k
    rw [if_neg (by rw [q2]; decide)] at k
    refine ok_istore_n dX5_leader_5 (st_3_2 rfl) (Nat.le_of_ble_eq_true rfl) ?_
    refine ok_iload_n dX5_leader_6 rfl ?_
    refine ok_if_ge (tgt := 14) dX5_leader_7 (by decide) (fun c2 => ?_) (fun c2 => ?_)
    · exact absurd c2 (by decide)
    · refine ok_iload_n dX5_leader_10 rfl ?_
      refine ok_goto (tgt := 20) dX5_leader_11 (by decide) ?_
      refine ok_iret dX5_leader_20 rfl rfl ⟨Nat.le_of_ble_eq_true rfl, Nat.le_of_ble_eq_true rfl⟩ ?_
      exact k h' (x'.m (by decide)) ⟨_, _, _, _, I'⟩
  · rw [q1] at k
    dsimp only at k
    rw [if_pos q4] at k
    subst q3
    have e01 := I1.1
    have hs2 : sno S j < 76 := (nb_NN (I.2.2.2.2.2.2.1 j q2 q4) I.2.2.2.2.2.2.2).1
    have hk2 : kno S j < NN (sno S j) := (nb_NN (I.2.2.2.2.2.2.1 j q2 q4) I.2.2.2.2.2.2.2).2
    have hN2 := NN_lt hs2
    obtain ⟨s54, s55, s56, s57, s58⟩ := id st1
    refine ok_istore_n dX5_leader_5 (st_3_2 rfl) (Nat.le_of_ble_eq_true rfl) ?_
    refine ok_iload_n dX5_leader_6 rfl ?_
    refine okN_if_ge (tgt := 14) dX5_leader_7 (by decide) (by omega) ?_
    refine ok_aload_n dX5_leader_14 rfl rfl ?_
    refine ok_get dX5_leader_15 fl_X5_47 (by assumption) (by rfl) ?_
    refine ok_iload_n dX5_leader_18 rfl ?_
    first | refine okN_iald dX5_leader_19 (by assumption) (by omega) (by decide) ?_ | refine okF_iald dX5_leader_19 (by assumption) (by omega) (by omega) ?_ | refine okN_kald dX5_leader_19 (by assumption) (by omega) (by decide) ?_
    refine ok_iret dX5_leader_20 rfl rfl ⟨Nat.le_of_ble_eq_true rfl, Nat.le_of_ble_eq_true rfl⟩ ?_
    exact k h1 (x1.m (by decide)) ⟨_, _, _, _, I1⟩
theorem p_X5_from {p : Int32} (I : IM h S) (k : ∀ h', fM h h' → IM h' (sp_from S p).2 → Q (some (.int (sp_from S p).1)) h') : Ok g MX5_from (m_J g MX5_from Q) 0 [some (.ref 46), some (.int p), none] [] h 0 0 := by
  obtain ⟨sz, li, lz, kd, I⟩ := I
  have e0 := I.1
  unfold sp_from ofp at k
  refine ok_aload_n dX5_from_0 rfl rfl ?_
  refine ok_iload_n dX5_from_1 rfl ?_
  refine call_X5_stepped dX5_from_2 lk_X5_143 ⟨Nat.le_of_ble_eq_true rfl, Nat.le_of_ble_eq_true rfl, Nat.le_of_ble_eq_true rfl⟩ (by assumption) (Nat.le_of_ble_eq_true rfl) ?_
  refine c_X5_stepped I (fun q => ?_) (fun j h' q1 q2 x' I' => ?_) (fun j h1 q1 q2 q3 q4 x1 I1 st1 => ?_)
  · rw [q] at k
    refine ok_istore_n dX5_from_5 (st_3_2 rfl) (Nat.le_of_ble_eq_true rfl) ?_
    refine ok_iload_n dX5_from_6 rfl ?_
    refine ok_if_ge (tgt := 14) dX5_from_7 (by decide) (fun c2 => ?_) (fun c2 => ?_)
    · exact absurd c2 (by decide)
    · refine ok_iload_n dX5_from_10 rfl ?_
      refine ok_goto (tgt := 20) dX5_from_11 (by decide) ?_
      refine ok_iret dX5_from_20 rfl rfl ⟨Nat.le_of_ble_eq_true rfl, Nat.le_of_ble_eq_true rfl⟩ ?_
      exact k h fM.rf ⟨_, _, _, _, I⟩
  · rw [q1] at k
    dsimp only at k
    rw [if_neg (by rw [q2]; decide)] at k
    refine ok_istore_n dX5_from_5 (st_3_2 rfl) (Nat.le_of_ble_eq_true rfl) ?_
    refine ok_iload_n dX5_from_6 rfl ?_
    refine ok_if_ge (tgt := 14) dX5_from_7 (by decide) (fun c2 => ?_) (fun c2 => ?_)
    · exact absurd c2 (by decide)
    · refine ok_iload_n dX5_from_10 rfl ?_
      refine ok_goto (tgt := 20) dX5_from_11 (by decide) ?_
      refine ok_iret dX5_from_20 rfl rfl ⟨Nat.le_of_ble_eq_true rfl, Nat.le_of_ble_eq_true rfl⟩ ?_
      exact k h' (x'.m (by decide)) ⟨_, _, _, _, I'⟩
  · rw [q1] at k
    dsimp only at k
    rw [if_pos q4] at k
    subst q3
    have e01 := I1.1
    have hs2 : sno S j < 76 := (nb_NN (I.2.2.2.2.2.2.1 j q2 q4) I.2.2.2.2.2.2.2).1
    have hk2 : kno S j < NN (sno S j) := (nb_NN (I.2.2.2.2.2.2.1 j q2 q4) I.2.2.2.2.2.2.2).2
    have hN2 := NN_lt hs2
    obtain ⟨s54, s55, s56, s57, s58⟩ := id st1
    refine ok_istore_n dX5_from_5 (st_3_2 rfl) (Nat.le_of_ble_eq_true rfl) ?_
    refine ok_iload_n dX5_from_6 rfl ?_
    refine okN_if_ge (tgt := 14) dX5_from_7 (by decide) (by omega) ?_
    refine ok_aload_n dX5_from_14 rfl rfl ?_
    refine ok_get dX5_from_15 fl_X5_38 (by assumption) (by rfl) ?_
    refine ok_iload_n dX5_from_18 rfl ?_
    first | refine okN_iald dX5_from_19 (by assumption) (by omega) (by decide) ?_ | refine okF_iald dX5_from_19 (by assumption) (by omega) (by omega) ?_ | refine okN_kald dX5_from_19 (by assumption) (by omega) (by decide) ?_
    refine ok_iret dX5_from_20 rfl rfl ⟨Nat.le_of_ble_eq_true rfl, Nat.le_of_ble_eq_true rfl⟩ ?_
    exact k h1 (x1.m (by decide)) ⟨_, _, _, _, I1⟩
theorem l_X5_fromAt {p : Nat} {i : Int32} {t : Nat} (hs : s < 76) (ht : t < NN s) (e0 : hc h 46 = some (mdo fi wk ru sz li (NN s) kd)) (s54 : Af h 54 385 (NN s) (nx s)) :
    ∀ (d j m : Nat), j + d = NN s → m < 2 ^ 31 → Q (some (.int (nthN (fun x => nx s x == t) d j m))) h → Ok g MX5_fromAt (m_J g MX5_fromAt Q) 18 [some (.ref 46), some (.int (nI p)), some (.int i), some (.int (nI t)), some (.int (nI m)), some (.int (nI j))] [] h 0 0 := by
  have hN := NN_lt hs
  intro d
  induction d with
  | zero =>
    intro j m hj hm k
    refine ok_iload dX5_fromAt_18 rfl ?_
    refine ok_aload_n dX5_fromAt_20 rfl rfl ?_
    refine ok_get dX5_fromAt_21 fl_X5_104 (by assumption) (by rfl) ?_
    refine okN_icmp_ge (tgt := 60) dX5_fromAt_24 (by decide) (by omega) (by omega) (fun c1 => ?_) (fun c1 => ?_)
    · refine ok_bipush (v := -9) dX5_fromAt_60 (by decide) ?_
      refine ok_iret dX5_fromAt_62 rfl rfl ⟨Nat.le_of_ble_eq_true rfl, Nat.le_of_ble_eq_true rfl⟩ ?_
      exact k
    · exact absurd c1 (by omega)
  | succ d ih =>
    intro j m hj hm k
    have n1 := (ch_k hs (k := j) (by omega)).2.2.2.2.2.2.2.2.2.2
    unfold nthN at k
    refine ok_iload dX5_fromAt_18 rfl ?_
    refine ok_aload_n dX5_fromAt_20 rfl rfl ?_
    refine ok_get dX5_fromAt_21 fl_X5_104 (by assumption) (by rfl) ?_
    refine okN_icmp_ge (tgt := 60) dX5_fromAt_24 (by decide) (by omega) (by omega) (fun c1 => ?_) (fun c1 => ?_)
    · exact absurd c1 (by omega)
    · refine ok_iload dX5_fromAt_27 rfl ?_
      refine okN_if_lt (tgt := 60) dX5_fromAt_29 (by decide) (by omega) ?_
      refine ok_aload_n dX5_fromAt_32 rfl rfl ?_
      refine ok_get dX5_fromAt_33 fl_X5_35 (by assumption) (by rfl) ?_
      refine ok_iload dX5_fromAt_36 rfl ?_
      first | refine okN_iald dX5_fromAt_38 (by assumption) (by omega) (by decide) ?_ | refine okF_iald dX5_fromAt_38 (by assumption) (by omega) (by omega) ?_ | refine okN_kald dX5_fromAt_38 (by assumption) (by omega) (by decide) ?_
      refine ok_iload_n dX5_fromAt_39 rfl ?_
      refine okN_icmp_ne (tgt := 54) dX5_fromAt_40 (by decide) (by omega) (by omega) (fun c3 => ?_) (fun c3 => ?_)
      · have e : (nx s j == t) = false := by simpa using c3
        simp only [e] at k
        refine okN_inc dX5_fromAt_54 rfl (st_6_5 rfl) (Nat.le_of_ble_eq_true rfl) ?_
        refine ok_goto (tgt := 18) dX5_fromAt_57 (by decide) ?_
        exact ih (j + 1) m (by omega) hm k
      · have e : (nx s j == t) = true := by simpa using c3
        simp only [e, if_true] at k
        refine ok_iload dX5_fromAt_43 rfl ?_
        refine okN_if_ne (tgt := 51) dX5_fromAt_45 (by decide) (by omega) (fun c4 => ?_) (fun c4 => ?_)
        · rw [if_neg (by omega)] at k
          refine okN_dec dX5_fromAt_51 rfl (by omega) (st_6_4 rfl) (Nat.le_of_ble_eq_true rfl) ?_
          refine okN_inc dX5_fromAt_54 rfl (st_6_5 rfl) (Nat.le_of_ble_eq_true rfl) ?_
          refine ok_goto (tgt := 18) dX5_fromAt_57 (by decide) ?_
          exact ih (j + 1) (m - 1) (by omega) (by omega) k
        · rw [if_pos c4] at k
          refine ok_iload dX5_fromAt_48 rfl ?_
          refine ok_iret dX5_fromAt_50 rfl rfl ⟨Nat.le_of_ble_eq_true rfl, Nat.le_of_ble_eq_true rfl⟩ ?_
          exact k
theorem p_X5_fromAt {p i : Int32} (I : IM h S) (k : ∀ h', fM h h' → IM h' (sp_fromAt S p i).2 → Q (some (.int (sp_fromAt S p i).1)) h') : Ok g MX5_fromAt (m_J g MX5_fromAt Q) 0 [some (.ref 46), some (.int p), some (.int i), none, none, none] [] h 0 0 := by
  obtain ⟨sz, li, lz, kd, I⟩ := I
  have e0 := I.1
  unfold sp_fromAt ofp at k
  refine ok_aload_n dX5_fromAt_0 rfl rfl ?_
  refine ok_iload_n dX5_fromAt_1 rfl ?_
  refine call_X5_stepped dX5_fromAt_2 lk_X5_143 ⟨Nat.le_of_ble_eq_true rfl, Nat.le_of_ble_eq_true rfl, Nat.le_of_ble_eq_true rfl⟩ (by assumption) (Nat.le_of_ble_eq_true rfl) ?_
  refine c_X5_stepped I (fun q => ?_) (fun j h' q1 q2 x' I' => ?_) (fun j h1 q1 q2 q3 q4 x1 I1 st1 => ?_)
  · rw [q] at k
    refine ok_istore_n dX5_fromAt_5 (st_6_3 rfl) (Nat.le_of_ble_eq_true rfl) ?_
    refine ok_iload_n dX5_fromAt_6 rfl ?_
    refine ok_if_ge (tgt := 12) dX5_fromAt_7 (by decide) (fun c2 => ?_) (fun c2 => ?_)
    · exact absurd c2 (by decide)
    · refine ok_iload_n dX5_fromAt_10 rfl ?_
      refine ok_iret dX5_fromAt_11 rfl rfl ⟨Nat.le_of_ble_eq_true rfl, Nat.le_of_ble_eq_true rfl⟩ ?_
      exact k h fM.rf ⟨_, _, _, _, I⟩
  · rw [q1] at k
    dsimp only at k
    rw [if_neg (by rw [q2]; decide)] at k
    refine ok_istore_n dX5_fromAt_5 (st_6_3 rfl) (Nat.le_of_ble_eq_true rfl) ?_
    refine ok_iload_n dX5_fromAt_6 rfl ?_
    refine ok_if_ge (tgt := 12) dX5_fromAt_7 (by decide) (fun c2 => ?_) (fun c2 => ?_)
    · exact absurd c2 (by decide)
    · refine ok_iload_n dX5_fromAt_10 rfl ?_
      refine ok_iret dX5_fromAt_11 rfl rfl ⟨Nat.le_of_ble_eq_true rfl, Nat.le_of_ble_eq_true rfl⟩ ?_
      exact k h' (x'.m (by decide)) ⟨_, _, _, _, I'⟩
  · rw [q1] at k
    dsimp only at k
    rw [if_pos q4] at k
    subst q3
    have e01 := I1.1
    have hs2 : sno S j < 76 := (nb_NN (I.2.2.2.2.2.2.1 j q2 q4) I.2.2.2.2.2.2.2).1
    have hk2 : kno S j < NN (sno S j) := (nb_NN (I.2.2.2.2.2.2.1 j q2 q4) I.2.2.2.2.2.2.2).2
    have hN2 := NN_lt hs2
    obtain ⟨s54, s55, s56, s57, s58⟩ := id st1
    refine ok_istore_n dX5_fromAt_5 (st_6_3 rfl) (Nat.le_of_ble_eq_true rfl) ?_
    refine ok_iload_n dX5_fromAt_6 rfl ?_
    refine okN_if_ge (tgt := 12) dX5_fromAt_7 (by decide) (by omega) ?_
    have K := k h1 (x1.m (by decide)) ⟨_, _, _, _, I1⟩
    dsimp only at K
    unfold nthI at K
    have hp := NN_pos _ hs2
    refine ok_iload_n dX5_fromAt_12 rfl ?_
    refine ok_istore dX5_fromAt_13 (st_6_4 rfl) (Nat.le_of_ble_eq_true rfl) ?_
    refine ok_iconst (v := nI 0) dX5_fromAt_15 (by decide) ?_
    refine ok_istore dX5_fromAt_16 (st_6_5 rfl) (Nat.le_of_ble_eq_true rfl) ?_
    by_cases ci : i < 0
    · rw [if_pos ci] at K
      refine ok_iload dX5_fromAt_18 rfl ?_
      refine ok_aload_n dX5_fromAt_20 rfl rfl ?_
      refine ok_get dX5_fromAt_21 fl_X5_104 (by assumption) (by rfl) ?_
      refine okN_icmp_ge (tgt := 60) dX5_fromAt_24 (by decide) (by omega) (by omega) (fun c3 => ?_) (fun c3 => ?_)
      · exact absurd c3 (by omega)
      · refine ok_iload dX5_fromAt_27 rfl ?_
        refine ok_if_lt (tgt := 60) dX5_fromAt_29 (by decide) (fun c4 => ?_) (fun c4 => ?_)
        · refine ok_bipush (v := -9) dX5_fromAt_60 (by decide) ?_
          refine ok_iret dX5_fromAt_62 rfl rfl ⟨Nat.le_of_ble_eq_true rfl, Nat.le_of_ble_eq_true rfl⟩ ?_
          exact K
        · exact absurd ci c4
    · obtain ⟨m, m1, m2⟩ := nI_of ci
      subst m2
      rw [if_neg ci, nI_clamp m1] at K
      exact l_X5_fromAt hs2 hk2 e01 s54 (NN (sno S j)) 0 m (by omega) m1 K
theorem l_X5_ring {n : Nat} {i : Int32} (hs : s < 76) (e0 : hc h 46 = some (mdo fi wk ru sz li (NN s) kd)) (s58 : Af h 58 385 (NN s) (c_le s)) :
    ∀ (d j m : Nat), j + d = NN s → m < 2 ^ 31 → Q (some (.int (nthN (fun x => c_le s x == x) d j m))) h → Ok g MX5_ring (m_J g MX5_ring Q) 22 [some (.ref 46), some (.int (nI n)), some (.int i), some (.int (nI m)), some (.int (nI j))] [] h 0 0 := by
  have hN := NN_lt hs
  intro d
  induction d with
  | zero =>
    intro j m hj hm k
    refine ok_iload dX5_ring_22 rfl ?_
    refine ok_aload_n dX5_ring_24 rfl rfl ?_
    refine ok_get dX5_ring_25 fl_X5_104 (by assumption) (by rfl) ?_
    refine okN_icmp_ge (tgt := 63) dX5_ring_28 (by decide) (by omega) (by omega) (fun c1 => ?_) (fun c1 => ?_)
    · refine ok_bipush (v := -9) dX5_ring_63 (by decide) ?_
      refine ok_iret dX5_ring_65 rfl rfl ⟨Nat.le_of_ble_eq_true rfl, Nat.le_of_ble_eq_true rfl⟩ ?_
      exact k
    · exact absurd c1 (by omega)
  | succ d ih =>
    intro j m hj hm k
    have n1 := (ch_k hs (k := j) (by omega)).2.2.2.2.2.2.2.2.2.1
    unfold nthN at k
    refine ok_iload dX5_ring_22 rfl ?_
    refine ok_aload_n dX5_ring_24 rfl rfl ?_
    refine ok_get dX5_ring_25 fl_X5_104 (by assumption) (by rfl) ?_
    refine okN_icmp_ge (tgt := 63) dX5_ring_28 (by decide) (by omega) (by omega) (fun c1 => ?_) (fun c1 => ?_)
    · exact absurd c1 (by omega)
    · refine ok_iload_n dX5_ring_31 rfl ?_
      refine okN_if_lt (tgt := 63) dX5_ring_32 (by decide) (by omega) ?_
      refine ok_aload_n dX5_ring_35 rfl rfl ?_
      refine ok_get dX5_ring_36 fl_X5_47 (by assumption) (by rfl) ?_
      refine ok_iload dX5_ring_39 rfl ?_
      first | refine okN_iald dX5_ring_41 (by assumption) (by omega) (by decide) ?_ | refine okF_iald dX5_ring_41 (by assumption) (by omega) (by omega) ?_ | refine okN_kald dX5_ring_41 (by assumption) (by omega) (by decide) ?_
      refine ok_iload dX5_ring_42 rfl ?_
      refine okN_icmp_ne (tgt := 57) dX5_ring_44 (by decide) (by omega) (by omega) (fun c3 => ?_) (fun c3 => ?_)
      · have e : (c_le s j == j) = false := by simpa using c3
        simp only [e] at k
        refine okN_inc dX5_ring_57 rfl (st_5_4 rfl) (Nat.le_of_ble_eq_true rfl) ?_
        refine ok_goto (tgt := 22) dX5_ring_60 (by decide) ?_
        exact ih (j + 1) m (by omega) hm k
      · have e : (c_le s j == j) = true := by simpa using c3
        simp only [e, if_true] at k
        refine ok_iload_n dX5_ring_47 rfl ?_
        refine okN_if_ne (tgt := 54) dX5_ring_48 (by decide) (by omega) (fun c4 => ?_) (fun c4 => ?_)
        · rw [if_neg (by omega)] at k
          refine okN_dec dX5_ring_54 rfl (by omega) (st_5_3 rfl) (Nat.le_of_ble_eq_true rfl) ?_
          refine okN_inc dX5_ring_57 rfl (st_5_4 rfl) (Nat.le_of_ble_eq_true rfl) ?_
          refine ok_goto (tgt := 22) dX5_ring_60 (by decide) ?_
          exact ih (j + 1) (m - 1) (by omega) (by omega) k
        · rw [if_pos c4] at k
          refine ok_iload dX5_ring_51 rfl ?_
          refine ok_iret dX5_ring_53 rfl rfl ⟨Nat.le_of_ble_eq_true rfl, Nat.le_of_ble_eq_true rfl⟩ ?_
          exact k
theorem p_X5_ring {n i : Int32} (I : IM h S) (k : ∀ h', fM h h' → IM h' (sp_ring S n i).2 → Q (some (.int (sp_ring S n i).1)) h') : Ok g MX5_ring (m_J g MX5_ring Q) 0 [some (.ref 46), some (.int n), some (.int i), none, none] [] h 0 0 := by
  obtain ⟨sz, li, lz, kd, I⟩ := I
  have e0 := I.1
  have hr := I.2.2.2.2.2.2.2
  unfold sp_ring at k
  refine ok_iload_n dX5_ring_0 rfl ?_
  refine ok_iconst (v := nI 0) dX5_ring_1 (by decide) ?_
  refine ok_bipush (v := nI 18) dX5_ring_2 (by decide) ?_
  refine call_X5_in dX5_ring_4 lk_X5_69 ⟨Nat.le_of_ble_eq_true rfl, Nat.le_of_ble_eq_true rfl, Nat.le_of_ble_eq_true rfl⟩ (Nat.le_of_ble_eq_true rfl) ?_
  refine c_X5_inP (n := 19) (by decide) (by decide) (fun j q1 q2 q3 => ?_) (fun q => ?_)
  · rw [q1] at k
    dsimp only at k
    subst q3
    refine okN_if_ne (tgt := 12) dX5_ring_7 (by decide) (by omega) (fun c1 => ?_) (fun c1 => ?_)
    · refine ok_aload_n dX5_ring_12 rfl rfl ?_
      refine ok_iload_n dX5_ring_13 rfl ?_
      refine call_X5_setSteps dX5_ring_14 lk_X5_140 ⟨Nat.le_of_ble_eq_true rfl, Nat.le_of_ble_eq_true rfl, Nat.le_of_ble_eq_true rfl⟩ (by assumption) (Nat.le_of_ble_eq_true rfl) ?_
      refine c_X5_setSteps I q2 (fun h1 s1 x1 I1 st1 => ?_)
      have e01 := I1.1
      have K := k h1 (x1.m (by decide)) ⟨_, _, _, _, I1⟩
      have hs2 : 19 * S.2.2.1 + j < 76 := by omega
      generalize 19 * S.2.2.1 + j = s at K hs2 st1 I1 e01
      obtain ⟨s54, s55, s56, s57, s58⟩ := id st1
      unfold nthI at K
      have hp := NN_pos _ hs2
      have hN2 := NN_lt hs2
      refine ok_iload_n dX5_ring_17 rfl ?_
      refine ok_istore_n dX5_ring_18 (st_5_3 rfl) (Nat.le_of_ble_eq_true rfl) ?_
      refine ok_iconst (v := nI 0) dX5_ring_19 (by decide) ?_
      refine ok_istore dX5_ring_20 (st_5_4 rfl) (Nat.le_of_ble_eq_true rfl) ?_
      by_cases ci : i < 0
      · rw [if_pos ci] at K
        refine ok_iload dX5_ring_22 rfl ?_
        refine ok_aload_n dX5_ring_24 rfl rfl ?_
        refine ok_get dX5_ring_25 fl_X5_104 (by assumption) (by rfl) ?_
        refine okN_icmp_ge (tgt := 63) dX5_ring_28 (by decide) (by omega) (by omega) (fun c3 => ?_) (fun c3 => ?_)
        · exact absurd c3 (by omega)
        · refine ok_iload_n dX5_ring_31 rfl ?_
          refine ok_if_lt (tgt := 63) dX5_ring_32 (by decide) (fun c4 => ?_) (fun c4 => ?_)
          · refine ok_bipush (v := -9) dX5_ring_63 (by decide) ?_
            refine ok_iret dX5_ring_65 rfl rfl ⟨Nat.le_of_ble_eq_true rfl, Nat.le_of_ble_eq_true rfl⟩ ?_
            exact K
          · exact absurd ci c4
      · obtain ⟨m, m1, m2⟩ := nI_of ci
        subst m2
        rw [if_neg ci, nI_clamp m1] at K
        exact l_X5_ring hs2 e01 s58 (NN s) 0 m (by omega) m1 K
    · exact absurd c1 (by decide)
  · rw [q] at k
    refine okN_if_ne (tgt := 12) dX5_ring_7 (by decide) (by omega) (fun c1 => ?_) (fun c1 => ?_)
    · exact absurd c1 (by decide)
    · refine ok_iconst (v := -1) dX5_ring_10 (by decide) ?_
      refine ok_iret dX5_ring_11 rfl rfl ⟨Nat.le_of_ble_eq_true rfl, Nat.le_of_ble_eq_true rfl⟩ ?_
      exact k h fM.rf ⟨_, _, _, _, I⟩
theorem p_X5_mark {p kw : Int32} (I : IM h S) (k : ∀ h', fM h h' → IM h' (sp_mark S p kw).2 → Q (some (.int (sp_mark S p kw).1)) h') : Ok g MX5_mark (m_J g MX5_mark Q) 0 [some (.ref 46), some (.int p), some (.int kw), none, none] [] h 0 0 := by
  obtain ⟨sz, li, lz, kd, I⟩ := I
  have e0 := I.1
  unfold sp_mark at k
  refine ok_iload_n dX5_mark_0 rfl ?_
  refine ok_iconst (v := nI 1) dX5_mark_1 (by decide) ?_
  refine ok_iconst (v := nI 3) dX5_mark_2 (by decide) ?_
  refine call_X5_in dX5_mark_3 lk_X5_69 ⟨Nat.le_of_ble_eq_true rfl, Nat.le_of_ble_eq_true rfl, Nat.le_of_ble_eq_true rfl⟩ (Nat.le_of_ble_eq_true rfl) ?_
  refine c_X5_in (by decide) (by decide) (fun a1 a2 => ?_) (fun a => ?_)
  · rcases pl_cases 4 kw (by decide) with e | ⟨m, e, hm, rfl⟩
    · have := pl_not e
      omega
    · rw [nI_toInt (by omega)] at a1
      rw [e] at k
      dsimp only at k
      rw [if_neg (by omega)] at k
      unfold ofp at k
      refine okN_if_ne (tgt := 11) dX5_mark_6 (by decide) (by omega) (fun c1 => ?_) (fun c1 => ?_)
      · refine ok_aload_n dX5_mark_11 rfl rfl ?_
        refine ok_iload_n dX5_mark_12 rfl ?_
        refine call_X5_stepped dX5_mark_13 lk_X5_143 ⟨Nat.le_of_ble_eq_true rfl, Nat.le_of_ble_eq_true rfl, Nat.le_of_ble_eq_true rfl⟩ (by assumption) (Nat.le_of_ble_eq_true rfl) ?_
        refine c_X5_stepped I (fun q => ?_) (fun j h' q1 q2 x' I' => ?_) (fun j h1 q1 q2 q3 q4 x1 I1 st1 => ?_)
        · rw [q] at k
          refine ok_istore_n dX5_mark_16 (st_5_3 rfl) (Nat.le_of_ble_eq_true rfl) ?_
          refine ok_iload_n dX5_mark_17 rfl ?_
          refine ok_if_ge (tgt := 23) dX5_mark_18 (by decide) (fun c2 => ?_) (fun c2 => ?_)
          · exact absurd c2 (by decide)
          · refine ok_iload_n dX5_mark_21 rfl ?_
            refine ok_iret dX5_mark_22 rfl rfl ⟨Nat.le_of_ble_eq_true rfl, Nat.le_of_ble_eq_true rfl⟩ ?_
            exact k h fM.rf ⟨_, _, _, _, I⟩
        · rw [q1] at k
          dsimp only at k
          rw [if_neg (by rw [q2]; decide)] at k
          refine ok_istore_n dX5_mark_16 (st_5_3 rfl) (Nat.le_of_ble_eq_true rfl) ?_
          refine ok_iload_n dX5_mark_17 rfl ?_
          refine ok_if_ge (tgt := 23) dX5_mark_18 (by decide) (fun c2 => ?_) (fun c2 => ?_)
          · exact absurd c2 (by decide)
          · refine ok_iload_n dX5_mark_21 rfl ?_
            refine ok_iret dX5_mark_22 rfl rfl ⟨Nat.le_of_ble_eq_true rfl, Nat.le_of_ble_eq_true rfl⟩ ?_
            exact k h' (x'.m (by decide)) ⟨_, _, _, _, I'⟩
        · rw [q1] at k
          dsimp only at k
          rw [if_pos q4] at k
          subst q3
          have e01 := I1.1
          have hs2 : sno S j < 76 := (nb_NN (I.2.2.2.2.2.2.1 j q2 q4) I.2.2.2.2.2.2.2).1
          have hk2 : kno S j < NN (sno S j) := (nb_NN (I.2.2.2.2.2.2.1 j q2 q4) I.2.2.2.2.2.2.2).2
          have hN2 := NN_lt hs2
          obtain ⟨s54, s55, s56, s57, s58⟩ := id st1
          refine ok_istore_n dX5_mark_16 (st_5_3 rfl) (Nat.le_of_ble_eq_true rfl) ?_
          refine ok_iload_n dX5_mark_17 rfl ?_
          refine okN_if_ge (tgt := 23) dX5_mark_18 (by decide) (by omega) ?_
          refine ok_aload_n dX5_mark_23 rfl rfl ?_
          refine ok_iload_n dX5_mark_24 rfl ?_
          refine call_X5_kindOf dX5_mark_25 lk_X5_146 ⟨Nat.le_of_ble_eq_true rfl, Nat.le_of_ble_eq_true rfl, Nat.le_of_ble_eq_true rfl⟩ (by assumption) (Nat.le_of_ble_eq_true rfl) ?_
          refine c_X5_kindOf hs2 hk2 e01 st1 ?_
          have kb := kdI_lt (sno S j) (kno S j)
          generalize kdI (sno S j) (kno S j) = kv at k kb ⊢
          have yes : (kv = m ∨ (kv = 2 ∧ m = 1)) → Ok g MX5_mark (m_J g MX5_mark Q) 53 [some (.ref 46), some (.int (nI j)), some (.int (nI m)), some (.int (nI (kno S j))), some (.int (nI kv))] [] h1 0 0 := by
            intro hy
            rw [if_pos hy] at k
            refine ok_iload_n dX5_mark_53 rfl ?_
            refine ok_iconst (v := nI 1) dX5_mark_54 (by decide) ?_
            refine okN_icmp_ne (tgt := 67) dX5_mark_55 (by decide) (by omega) (by omega) (fun c3 => ?_) (fun c3 => ?_)
            · rw [if_neg c3] at k
              refine ok_iload_n dX5_mark_67 rfl ?_
              refine ok_iconst (v := nI 2) dX5_mark_68 (by decide) ?_
              refine okN_icmp_ne (tgt := 76) dX5_mark_69 (by decide) (by omega) (by omega) (fun c4 => ?_) (fun c4 => ?_)
              · rw [if_neg c4] at k
                refine ok_aload_n dX5_mark_76 rfl rfl ?_
                refine ok_get dX5_mark_77 fl_X5_41 (by assumption) (by rfl) ?_
                refine ok_iload_n dX5_mark_80 rfl ?_
                first | refine okN_iald dX5_mark_81 (by assumption) (by omega) (by decide) ?_ | refine okF_iald dX5_mark_81 (by assumption) (by omega) (by omega) ?_ | refine okN_kald dX5_mark_81 (by assumption) (by omega) (by decide) ?_
                refine ok_iret dX5_mark_82 rfl rfl ⟨Nat.le_of_ble_eq_true rfl, Nat.le_of_ble_eq_true rfl⟩ ?_
                exact k h1 (x1.m (by decide)) ⟨_, _, _, _, I1⟩
              · rw [if_pos c4] at k
                refine ok_iload_n dX5_mark_72 rfl ?_
                refine ok_goto (tgt := 82) dX5_mark_73 (by decide) ?_
                refine ok_iret dX5_mark_82 rfl rfl ⟨Nat.le_of_ble_eq_true rfl, Nat.le_of_ble_eq_true rfl⟩ ?_
                exact k h1 (x1.m (by decide)) ⟨_, _, _, _, I1⟩
            · rw [if_pos c3] at k
              refine ok_aload_n dX5_mark_58 rfl rfl ?_
              refine ok_get dX5_mark_59 fl_X5_44 (by assumption) (by rfl) ?_
              refine ok_iload_n dX5_mark_62 rfl ?_
              first | refine okN_iald dX5_mark_63 (by assumption) (by omega) (by decide) ?_ | refine okF_iald dX5_mark_63 (by assumption) (by omega) (by omega) ?_ | refine okN_kald dX5_mark_63 (by assumption) (by omega) (by decide) ?_
              refine ok_goto (tgt := 82) dX5_mark_64 (by decide) ?_
              refine ok_iret dX5_mark_82 rfl rfl ⟨Nat.le_of_ble_eq_true rfl, Nat.le_of_ble_eq_true rfl⟩ ?_
              exact k h1 (x1.m (by decide)) ⟨_, _, _, _, I1⟩
          have no : ¬ (kv = m ∨ (kv = 2 ∧ m = 1)) → Ok g MX5_mark (m_J g MX5_mark Q) 47 [some (.ref 46), some (.int (nI j)), some (.int (nI m)), some (.int (nI (kno S j))), some (.int (nI kv))] [] h1 0 0 := by
            intro hy
            rw [if_neg hy] at k
            refine ok_aload_n dX5_mark_47 rfl rfl ?_
            refine ok_iconst (v := nI 3) dX5_mark_48 (by decide) ?_
            refine call_X5_meets dX5_mark_49 lk_X5_77 ⟨Nat.le_of_ble_eq_true rfl, Nat.le_of_ble_eq_true rfl, Nat.le_of_ble_eq_true rfl⟩ (by assumption) (Nat.le_of_ble_eq_true rfl) ?_
            refine c_X5_meets I1 (by decide) (fun h' x' I' => ?_)
            refine ok_iret dX5_mark_52 rfl rfl ⟨Nat.le_of_ble_eq_true rfl, Nat.le_of_ble_eq_true rfl⟩ ?_
            exact k h' ((x1.tr x' (C := [46, 47, 51, 52, 53, 54, 55, 56, 57, 58]) (by simp) (by simp)).m (by decide)) ⟨_, _, _, _, I'⟩
          refine ok_istore dX5_mark_28 (st_5_4 rfl) (Nat.le_of_ble_eq_true rfl) ?_
          refine ok_iload dX5_mark_30 rfl ?_
          refine ok_iload_n dX5_mark_32 rfl ?_
          refine okN_icmp_eq (tgt := 53) dX5_mark_33 (by decide) (by omega) (by omega) (fun c3 => ?_) (fun c3 => ?_)
          · exact yes (Or.inl c3)
          · refine ok_iload_n dX5_mark_36 rfl ?_
            refine ok_iconst (v := nI 1) dX5_mark_37 (by decide) ?_
            refine okN_icmp_ne (tgt := 47) dX5_mark_38 (by decide) (by omega) (by omega) (fun c4 => ?_) (fun c4 => ?_)
            · exact no (by omega)
            · refine ok_iload dX5_mark_41 rfl ?_
              refine ok_iconst (v := nI 2) dX5_mark_43 (by decide) ?_
              refine okN_icmp_eq (tgt := 53) dX5_mark_44 (by decide) (by omega) (by omega) (fun c5 => ?_) (fun c5 => ?_)
              · exact yes (Or.inr ⟨c5, c4⟩)
              · exact no (by omega)
      · exact absurd c1 (by decide)
  · refine okN_if_ne (tgt := 11) dX5_mark_6 (by decide) (by omega) (fun c1 => ?_) (fun c1 => ?_)
    · exact absurd c1 (by decide)
    · refine ok_iconst (v := -1) dX5_mark_9 (by decide) ?_
      refine ok_iret dX5_mark_10 rfl rfl ⟨Nat.le_of_ble_eq_true rfl, Nat.le_of_ble_eq_true rfl⟩ ?_
      rcases pl_cases 4 kw (by decide) with e | ⟨m, e, hm, rfl⟩
      · rw [e] at k
        exact k h fM.rf ⟨_, _, _, _, I⟩
      · rw [nI_toInt (by omega)] at a
        rw [e] at k
        dsimp only at k
        rw [if_pos (by omega)] at k
        exact k h fM.rf ⟨_, _, _, _, I⟩
theorem l_X5_rounds {n x : Nat} (hs : s < 76) (hx5 : x < 5) (e0 : hc h 46 = some (mdo fi wk ru sz li (NN s) kd)) (st1 : StA h s) (k : ∀ z6, Ok g MX5_rounds (m_J g MX5_rounds Q) 143 [some (.ref 46), some (.int (nI n)), some (.int (nI x)), some (.int (nI (cntF (rdP s x) (NN s)))), some (.int (nI (mxN (if x = 2 then c_ta s else c_be s) (NN s)))), some (.int (nI (NN s))), z6] [] h 0 0) :
    ∀ (d j : Nat) (z6 : Option Value), j + d = NN s → Ok g MX5_rounds (m_J g MX5_rounds Q) 34 [some (.ref 46), some (.int (nI n)), some (.int (nI x)), some (.int (nI (cntF (rdP s x) j))), some (.int (nI (mxN (if x = 2 then c_ta s else c_be s) j))), some (.int (nI j)), z6] [] h 0 0 := by
  have hN := NN_lt hs
  obtain ⟨s54, s55, s56, s57, s58⟩ := id st1
  intro d
  induction d with
  | zero =>
    intro j z6 hj
    have ej : j = NN s := by omega
    subst ej
    refine ok_iload dX5_rounds_34 rfl ?_
    refine ok_aload_n dX5_rounds_36 rfl rfl ?_
    refine ok_get dX5_rounds_37 fl_X5_104 (by assumption) (by rfl) ?_
    refine okN_icmp_ge (tgt := 143) dX5_rounds_40 (by decide) (by omega) (by omega) (fun c1 => ?_) (fun c1 => ?_)
    · exact k _
    · exact absurd c1 (by omega)
  | succ d ih =>
    intro j z6 hj
    obtain ⟨a1, a2, a3, a4, a5, a6, a7, a8, a9, a10, a11⟩ := ch_k hs (k := j) (by omega)
    have mb : mxN (if x = 2 then c_ta s else c_be s) j ≤ NN s := mxN_le j (fun i hi => by
      have := (ch_k hs (k := i) (by omega)).2.2.2.2.2.1
      split <;> omega)
    have nxt : ∀ z, Ok g MX5_rounds (m_J g MX5_rounds Q) 34 [some (.ref 46), some (.int (nI n)), some (.int (nI x)), some (.int (nI (cntF (rdP s x) j + (if rdP s x j = true then 1 else 0)))), some (.int (nI (mx (mxN (if x = 2 then c_ta s else c_be s) j) ((if x = 2 then c_ta s else c_be s) j)))), some (.int (nI (j + 1))), z] [] h 0 0 := fun z => ih (j + 1) z (by omega)
    generalize mxN (if x = 2 then c_ta s else c_be s) j = m0 at mb nxt ⊢
    have r3 : ∀ v b, v = (if x = 2 then c_ta s else c_be s) j → v ≤ NN s → b = (if rdP s x j = true then 1 else 0) → Ok g MX5_rounds (m_J g MX5_rounds Q) 119 [some (.ref 46), some (.int (nI n)), some (.int (nI x)), some (.int (nI (cntF (rdP s x) j + b))), some (.int (nI m0)), some (.int (nI j)), z6] [.int (nI v)] h 0 0 := by
      intro v b hv hv2 hb
      rw [← hv, ← hb] at nxt
      unfold mx at nxt
      refine ok_istore dX5_rounds_119 (st_7_6 rfl) (Nat.le_of_ble_eq_true rfl) ?_
      refine ok_iload dX5_rounds_121 rfl ?_
      refine ok_iload dX5_rounds_123 rfl ?_
      refine okN_icmp_le (tgt := 133) dX5_rounds_125 (by decide) (by omega) (by omega) (fun c3 => ?_) (fun c3 => ?_)
      · rw [if_neg (show ¬ m0 < v by omega)] at nxt
        refine ok_iload dX5_rounds_133 rfl ?_
        refine ok_istore dX5_rounds_135 (st_7_4 rfl) (Nat.le_of_ble_eq_true rfl) ?_
        refine okN_inc dX5_rounds_137 rfl (st_7_5 rfl) (Nat.le_of_ble_eq_true rfl) ?_
        refine ok_goto (tgt := 34) dX5_rounds_140 (by decide) ?_
        exact nxt _
      · rw [if_pos (show m0 < v from c3)] at nxt
        refine ok_iload dX5_rounds_128 rfl ?_
        refine ok_goto (tgt := 135) dX5_rounds_130 (by decide) ?_
        refine ok_istore dX5_rounds_135 (st_7_4 rfl) (Nat.le_of_ble_eq_true rfl) ?_
        refine okN_inc dX5_rounds_137 rfl (st_7_5 rfl) (Nat.le_of_ble_eq_true rfl) ?_
        refine ok_goto (tgt := 34) dX5_rounds_140 (by decide) ?_
        exact nxt _
    have r2 : ∀ b, b = (if rdP s x j = true then 1 else 0) → Ok g MX5_rounds (m_J g MX5_rounds Q) 95 [some (.ref 46), some (.int (nI n)), some (.int (nI x)), some (.int (nI (cntF (rdP s x) j))), some (.int (nI m0)), some (.int (nI j)), z6] [.int (nI b), .int (nI (cntF (rdP s x) j))] h 0 0 := by
      intro b hb
      first | refine okN_iadd dX5_rounds_95 ?_ | refine ok_iadd dX5_rounds_95 ?_
      refine ok_istore_n dX5_rounds_96 (st_7_3 rfl) (Nat.le_of_ble_eq_true rfl) ?_
      refine ok_iload_n dX5_rounds_97 rfl ?_
      refine ok_iconst (v := nI 2) dX5_rounds_98 (by decide) ?_
      refine okN_icmp_ne (tgt := 112) dX5_rounds_99 (by decide) (by omega) (by omega) (fun c3 => ?_) (fun c3 => ?_)
      · refine ok_aload_n dX5_rounds_112 rfl rfl ?_
        refine ok_get dX5_rounds_113 fl_X5_44 (by assumption) (by rfl) ?_
        refine ok_iload dX5_rounds_116 rfl ?_
        first | refine okN_iald dX5_rounds_118 (by assumption) (by omega) (by decide) ?_ | refine okF_iald dX5_rounds_118 (by assumption) (by omega) (by omega) ?_ | refine okN_kald dX5_rounds_118 (by assumption) (by omega) (by decide) ?_
        exact r3 _ b (by rw [if_neg c3]) (by omega) hb
      · refine ok_aload_n dX5_rounds_102 rfl rfl ?_
        refine ok_get dX5_rounds_103 fl_X5_41 (by assumption) (by rfl) ?_
        refine ok_iload dX5_rounds_106 rfl ?_
        first | refine okN_iald dX5_rounds_108 (by assumption) (by omega) (by decide) ?_ | refine okF_iald dX5_rounds_108 (by assumption) (by omega) (by omega) ?_ | refine okN_kald dX5_rounds_108 (by assumption) (by omega) (by decide) ?_
        refine ok_goto (tgt := 119) dX5_rounds_109 (by decide) ?_
        exact r3 _ b (by rw [if_pos c3]) (by omega) hb
    have yes : ((x = 0 ∧ c_le s j = j) ∨ (x = 1 ∧ c_ta s j = 0) ∨ (x = 3 ∧ c_co s j = 0)) → Ok g MX5_rounds (m_J g MX5_rounds Q) 90 [some (.ref 46), some (.int (nI n)), some (.int (nI x)), some (.int (nI (cntF (rdP s x) j))), some (.int (nI m0)), some (.int (nI j)), z6] [.int (nI (cntF (rdP s x) j))] h 0 0 := by
      intro hy
      refine ok_iconst (v := nI 1) dX5_rounds_90 (by decide) ?_
      refine ok_goto (tgt := 95) dX5_rounds_91 (by decide) ?_
      exact r2 1 (by rw [if_pos (by unfold rdP; exact decide_eq_true hy)])
    have no : ¬ ((x = 0 ∧ c_le s j = j) ∨ (x = 1 ∧ c_ta s j = 0) ∨ (x = 3 ∧ c_co s j = 0)) → Ok g MX5_rounds (m_J g MX5_rounds Q) 94 [some (.ref 46), some (.int (nI n)), some (.int (nI x)), some (.int (nI (cntF (rdP s x) j))), some (.int (nI m0)), some (.int (nI j)), z6] [.int (nI (cntF (rdP s x) j))] h 0 0 := by
      intro hy
      refine ok_iconst (v := nI 0) dX5_rounds_94 (by decide) ?_
      exact r2 0 (by rw [if_neg (by unfold rdP; exact fun z => hy (of_decide_eq_true z))])
    have t3 : ¬ ((x = 0 ∧ c_le s j = j) ∨ (x = 1 ∧ c_ta s j = 0)) → Ok g MX5_rounds (m_J g MX5_rounds Q) 75 [some (.ref 46), some (.int (nI n)), some (.int (nI x)), some (.int (nI (cntF (rdP s x) j))), some (.int (nI m0)), some (.int (nI j)), z6] [.int (nI (cntF (rdP s x) j))] h 0 0 := by
      intro hy
      refine ok_iload_n dX5_rounds_75 rfl ?_
      refine ok_iconst (v := nI 3) dX5_rounds_76 (by decide) ?_
      refine okN_icmp_ne (tgt := 94) dX5_rounds_77 (by decide) (by omega) (by omega) (fun c3 => ?_) (fun c3 => ?_)
      · exact no (by omega)
      · refine ok_aload_n dX5_rounds_80 rfl rfl ?_
        refine ok_get dX5_rounds_81 fl_X5_38 (by assumption) (by rfl) ?_
        refine ok_iload dX5_rounds_84 rfl ?_
        first | refine okN_iald dX5_rounds_86 (by assumption) (by omega) (by decide) ?_ | refine okF_iald dX5_rounds_86 (by assumption) (by omega) (by omega) ?_ | refine okN_kald dX5_rounds_86 (by assumption) (by omega) (by decide) ?_
        refine okN_if_ne (tgt := 94) dX5_rounds_87 (by decide) (by omega) (fun c4 => ?_) (fun c4 => ?_)
        · exact no (by omega)
        · exact yes (by omega)
    have t2 : ¬ (x = 0 ∧ c_le s j = j) → Ok g MX5_rounds (m_J g MX5_rounds Q) 60 [some (.ref 46), some (.int (nI n)), some (.int (nI x)), some (.int (nI (cntF (rdP s x) j))), some (.int (nI m0)), some (.int (nI j)), z6] [.int (nI (cntF (rdP s x) j))] h 0 0 := by
      intro hy
      refine ok_iload_n dX5_rounds_60 rfl ?_
      refine ok_iconst (v := nI 1) dX5_rounds_61 (by decide) ?_
      refine okN_icmp_ne (tgt := 75) dX5_rounds_62 (by decide) (by omega) (by omega) (fun c3 => ?_) (fun c3 => ?_)
      · exact t3 (by omega)
      · refine ok_aload_n dX5_rounds_65 rfl rfl ?_
        refine ok_get dX5_rounds_66 fl_X5_41 (by assumption) (by rfl) ?_
        refine ok_iload dX5_rounds_69 rfl ?_
        first | refine okN_iald dX5_rounds_71 (by assumption) (by omega) (by decide) ?_ | refine okF_iald dX5_rounds_71 (by assumption) (by omega) (by omega) ?_ | refine okN_kald dX5_rounds_71 (by assumption) (by omega) (by decide) ?_
        refine okN_if_eq (tgt := 90) dX5_rounds_72 (by decide) (by omega) (fun c4 => ?_) (fun c4 => ?_)
        · exact yes (by omega)
        · exact t3 (by omega)
    refine ok_iload dX5_rounds_34 rfl ?_
    refine ok_aload_n dX5_rounds_36 rfl rfl ?_
    refine ok_get dX5_rounds_37 fl_X5_104 (by assumption) (by rfl) ?_
    refine okN_icmp_ge (tgt := 143) dX5_rounds_40 (by decide) (by omega) (by omega) (fun c1 => ?_) (fun c1 => ?_)
    · exact absurd c1 (by omega)
    · refine ok_iload_n dX5_rounds_43 rfl ?_
      refine ok_iload_n dX5_rounds_44 rfl ?_
      refine okN_if_ne (tgt := 60) dX5_rounds_45 (by decide) (by omega) (fun c2 => ?_) (fun c2 => ?_)
      · exact t2 (by omega)
      · refine ok_aload_n dX5_rounds_48 rfl rfl ?_
        refine ok_get dX5_rounds_49 fl_X5_47 (by assumption) (by rfl) ?_
        refine ok_iload dX5_rounds_52 rfl ?_
        first | refine okN_iald dX5_rounds_54 (by assumption) (by omega) (by decide) ?_ | refine okF_iald dX5_rounds_54 (by assumption) (by omega) (by omega) ?_ | refine okN_kald dX5_rounds_54 (by assumption) (by omega) (by decide) ?_
        refine ok_iload dX5_rounds_55 rfl ?_
        refine okN_icmp_eq (tgt := 90) dX5_rounds_57 (by decide) (by omega) (by omega) (fun c3 => ?_) (fun c3 => ?_)
        · exact yes (by omega)
        · exact t2 (by omega)
theorem p_X5_rounds {n w : Int32} (I : IM h S) (k : ∀ h', fM h h' → IM h' (sp_rounds S n w).2 → Q (some (.int (sp_rounds S n w).1)) h') : Ok g MX5_rounds (m_J g MX5_rounds Q) 0 [some (.ref 46), some (.int n), some (.int w), none, none, none, none] [] h 0 0 := by
  obtain ⟨sz, li, lz, kd, I⟩ := I
  have e0 := I.1
  have hr := I.2.2.2.2.2.2.2
  unfold sp_rounds at k
  refine ok_iload_n dX5_rounds_0 rfl ?_
  refine ok_iconst (v := nI 0) dX5_rounds_1 (by decide) ?_
  refine ok_bipush (v := nI 18) dX5_rounds_2 (by decide) ?_
  refine call_X5_in dX5_rounds_4 lk_X5_69 ⟨Nat.le_of_ble_eq_true rfl, Nat.le_of_ble_eq_true rfl, Nat.le_of_ble_eq_true rfl⟩ (Nat.le_of_ble_eq_true rfl) ?_
  refine c_X5_inP (n := 19) (by decide) (by decide) (fun j q1 q2 q3 => ?_) (fun q => ?_)
  · rw [q1] at k
    subst q3
    refine okN_if_eq (tgt := 19) dX5_rounds_7 (by decide) (by omega) (fun c1 => ?_) (fun c1 => ?_)
    · exact absurd c1 (by decide)
    · refine ok_iload_n dX5_rounds_10 rfl ?_
      refine ok_iconst (v := nI 0) dX5_rounds_11 (by decide) ?_
      refine ok_iconst (v := nI 4) dX5_rounds_12 (by decide) ?_
      refine call_X5_in dX5_rounds_13 lk_X5_69 ⟨Nat.le_of_ble_eq_true rfl, Nat.le_of_ble_eq_true rfl, Nat.le_of_ble_eq_true rfl⟩ (Nat.le_of_ble_eq_true rfl) ?_
      refine c_X5_inP (n := 5) (by decide) (by decide) (fun x p1 p2 p3 => ?_) (fun q => ?_)
      · rw [p1] at k
        dsimp only at k
        subst p3
        refine okN_if_ne (tgt := 21) dX5_rounds_16 (by decide) (by omega) (fun c2 => ?_) (fun c2 => ?_)
        · refine ok_aload_n dX5_rounds_21 rfl rfl ?_
          refine ok_iload_n dX5_rounds_22 rfl ?_
          refine call_X5_setSteps dX5_rounds_23 lk_X5_140 ⟨Nat.le_of_ble_eq_true rfl, Nat.le_of_ble_eq_true rfl, Nat.le_of_ble_eq_true rfl⟩ (by assumption) (Nat.le_of_ble_eq_true rfl) ?_
          refine c_X5_setSteps I q2 (fun h1 s1 x1 I1 st1 => ?_)
          have e01 := I1.1
          have K := k h1 (x1.m (by decide)) ⟨_, _, _, _, I1⟩
          have hs2 : 19 * S.2.2.1 + j < 76 := by omega
          generalize 19 * S.2.2.1 + j = s at K hs2 st1 I1 e01
          rw [← rd_eq hs2 p2] at K
          refine ok_iconst (v := nI 0) dX5_rounds_26 (by decide) ?_
          refine ok_istore_n dX5_rounds_27 (st_7_3 rfl) (Nat.le_of_ble_eq_true rfl) ?_
          refine ok_iconst (v := nI 0) dX5_rounds_28 (by decide) ?_
          refine ok_istore dX5_rounds_29 (st_7_4 rfl) (Nat.le_of_ble_eq_true rfl) ?_
          refine ok_iconst (v := nI 0) dX5_rounds_31 (by decide) ?_
          refine ok_istore dX5_rounds_32 (st_7_5 rfl) (Nat.le_of_ble_eq_true rfl) ?_
          refine l_X5_rounds hs2 p2 e01 st1 (fun z6 => ?_) (NN s) 0 _ (by omega)
          refine ok_iload_n dX5_rounds_143 rfl ?_
          refine ok_iconst (v := nI 2) dX5_rounds_144 (by decide) ?_
          refine okN_icmp_eq (tgt := 153) dX5_rounds_145 (by decide) (by omega) (by omega) (fun c3 => ?_) (fun c3 => ?_)
          · rw [if_pos (by omega)] at K
            refine ok_iload dX5_rounds_153 rfl ?_
            refine ok_goto (tgt := 159) dX5_rounds_155 (by decide) ?_
            refine ok_iret dX5_rounds_159 rfl rfl ⟨Nat.le_of_ble_eq_true rfl, Nat.le_of_ble_eq_true rfl⟩ ?_
            exact K
          · refine ok_iload_n dX5_rounds_148 rfl ?_
            refine ok_iconst (v := nI 4) dX5_rounds_149 (by decide) ?_
            refine okN_icmp_ne (tgt := 158) dX5_rounds_150 (by decide) (by omega) (by omega) (fun c4 => ?_) (fun c4 => ?_)
            · rw [if_neg (by omega)] at K
              refine ok_iload_n dX5_rounds_158 rfl ?_
              refine ok_iret dX5_rounds_159 rfl rfl ⟨Nat.le_of_ble_eq_true rfl, Nat.le_of_ble_eq_true rfl⟩ ?_
              exact K
            · rw [if_pos (by omega)] at K
              refine ok_iload dX5_rounds_153 rfl ?_
              refine ok_goto (tgt := 159) dX5_rounds_155 (by decide) ?_
              refine ok_iret dX5_rounds_159 rfl rfl ⟨Nat.le_of_ble_eq_true rfl, Nat.le_of_ble_eq_true rfl⟩ ?_
              exact K
        · exact absurd c2 (by decide)
      · rw [q] at k
        dsimp only at k
        refine okN_if_ne (tgt := 21) dX5_rounds_16 (by decide) (by omega) (fun c2 => ?_) (fun c2 => ?_)
        · exact absurd c2 (by decide)
        · refine ok_iconst (v := -1) dX5_rounds_19 (by decide) ?_
          refine ok_iret dX5_rounds_20 rfl rfl ⟨Nat.le_of_ble_eq_true rfl, Nat.le_of_ble_eq_true rfl⟩ ?_
          exact k h fM.rf ⟨_, _, _, _, I⟩
  · rw [q] at k
    dsimp only at k
    refine okN_if_eq (tgt := 19) dX5_rounds_7 (by decide) (by omega) (fun c1 => ?_) (fun c1 => ?_)
    · refine ok_iconst (v := -1) dX5_rounds_19 (by decide) ?_
      refine ok_iret dX5_rounds_20 rfl rfl ⟨Nat.le_of_ble_eq_true rfl, Nat.le_of_ble_eq_true rfl⟩ ?_
      exact k h fM.rf ⟨_, _, _, _, I⟩
    · exact absurd c1 (by decide)
theorem l_X5_steps {p q t : Nat} (hs : s < 76) (ht : t < NN s) (e0 : hc h 46 = some (mdo fi wk ru sz li (NN s) kd)) (s54 : Af h 54 385 (NN s) (nx s)) :
    ∀ (d j c : Nat), j + d = NN s + 1 → c < NN s → Q (some (.int (fsI s t d j c))) h → Ok g MX5_steps (m_J g MX5_steps Q) 76 [some (.ref 46), some (.int (nI p)), some (.int (nI q)), some (.int (nI c)), some (.int (nI t)), some (.int (nI j))] [] h 0 0 := by
  have hN := NN_lt hs
  intro d
  induction d with
  | zero =>
    intro j c hj hc k
    refine ok_iload dX5_steps_76 rfl ?_
    refine ok_aload_n dX5_steps_78 rfl rfl ?_
    refine ok_get dX5_steps_79 fl_X5_104 (by assumption) (by rfl) ?_
    refine okN_icmp_gt (tgt := 107) dX5_steps_82 (by decide) (by omega) (by omega) (fun c1 => ?_) (fun c1 => ?_)
    · refine ok_bipush (v := -9) dX5_steps_107 (by decide) ?_
      refine ok_iret dX5_steps_109 rfl rfl ⟨Nat.le_of_ble_eq_true rfl, Nat.le_of_ble_eq_true rfl⟩ ?_
      exact k
    · exact absurd c1 (by omega)
  | succ d ih =>
    intro j c hj hc k
    have n1 := (ch_k hs hc).2.2.2.2.2.2.2.2.2.2
    unfold fsI at k
    refine ok_iload dX5_steps_76 rfl ?_
    refine ok_aload_n dX5_steps_78 rfl rfl ?_
    refine ok_get dX5_steps_79 fl_X5_104 (by assumption) (by rfl) ?_
    refine okN_icmp_gt (tgt := 107) dX5_steps_82 (by decide) (by omega) (by omega) (fun c1 => ?_) (fun c1 => ?_)
    · exact absurd c1 (by omega)
    · refine ok_iload_n dX5_steps_85 rfl ?_
      refine ok_iload dX5_steps_86 rfl ?_
      refine okN_icmp_ne (tgt := 94) dX5_steps_88 (by decide) (by omega) (by omega) (fun c2 => ?_) (fun c2 => ?_)
      · rw [if_neg c2] at k
        refine ok_aload_n dX5_steps_94 rfl rfl ?_
        refine ok_get dX5_steps_95 fl_X5_35 (by assumption) (by rfl) ?_
        refine ok_iload_n dX5_steps_98 rfl ?_
        first | refine okN_iald dX5_steps_99 (by assumption) (by omega) (by decide) ?_ | refine okF_iald dX5_steps_99 (by assumption) (by omega) (by omega) ?_ | refine okN_kald dX5_steps_99 (by assumption) (by omega) (by decide) ?_
        refine ok_istore_n dX5_steps_100 (st_6_3 rfl) (Nat.le_of_ble_eq_true rfl) ?_
        refine okN_inc dX5_steps_101 rfl (st_6_5 rfl) (Nat.le_of_ble_eq_true rfl) ?_
        refine ok_goto (tgt := 76) dX5_steps_104 (by decide) ?_
        exact ih (j + 1) _ (by omega) n1 k
      · rw [if_pos c2] at k
        refine ok_iload dX5_steps_91 rfl ?_
        refine ok_iret dX5_steps_93 rfl rfl ⟨Nat.le_of_ble_eq_true rfl, Nat.le_of_ble_eq_true rfl⟩ ?_
        exact k
theorem p_X5_steps {p q : Int32} (I : IM h S) (k : ∀ h', fM h h' → IM h' (sp_steps S p q).2 → Q (some (.int (sp_steps S p q).1)) h') : Ok g MX5_steps (m_J g MX5_steps Q) 0 [some (.ref 46), some (.int p), some (.int q), none, none, none] [] h 0 0 := by
  obtain ⟨sz, li, lz, kd, I⟩ := I
  obtain ⟨e0, -, ⟨F, e1, f1⟩, ⟨G, e2, g2⟩, -, -, k6, k7⟩ := id I
  unfold sp_steps of2 at k
  refine ok_iload_n dX5_steps_0 rfl ?_
  refine call_X5_isParting dX5_steps_1 lk_X5_73 ⟨Nat.le_of_ble_eq_true rfl, Nat.le_of_ble_eq_true rfl, Nat.le_of_ble_eq_true rfl⟩ (Nat.le_of_ble_eq_true rfl) ?_
  refine c_X5_isParting (fun a q1 q2 q3 => ?_) (fun z => ?_)
  · rw [q1] at k
    subst q3
    refine okN_if_eq (tgt := 14) dX5_steps_4 (by decide) (by omega) (fun c1 => ?_) (fun c1 => ?_)
    · exact absurd c1 (by decide)
    · refine ok_iload_n dX5_steps_7 rfl ?_
      refine call_X5_isParting dX5_steps_8 lk_X5_73 ⟨Nat.le_of_ble_eq_true rfl, Nat.le_of_ble_eq_true rfl, Nat.le_of_ble_eq_true rfl⟩ (Nat.le_of_ble_eq_true rfl) ?_
      refine c_X5_isParting (fun b p1 p2 p3 => ?_) (fun z => ?_)
      · rw [p1] at k
        dsimp only at k
        subst p3
        refine okN_if_ne (tgt := 16) dX5_steps_11 (by decide) (by omega) (fun c2 => ?_) (fun c2 => ?_)
        · have bad : ¬ (S.1 a = true ∧ S.1 b = true) → Ok g MX5_steps (m_J g MX5_steps Q) 34 [some (.ref 46), some (.int (nI a)), some (.int (nI b)), none, none, none] [] h 0 0 := by
            intro hn
            rw [if_neg hn] at k
            refine ok_aload_n dX5_steps_34 rfl rfl ?_
            refine ok_iconst (v := nI 1) dX5_steps_35 (by decide) ?_
            refine call_X5_meets dX5_steps_36 lk_X5_77 ⟨Nat.le_of_ble_eq_true rfl, Nat.le_of_ble_eq_true rfl, Nat.le_of_ble_eq_true rfl⟩ (by assumption) (Nat.le_of_ble_eq_true rfl) ?_
            refine c_X5_meets I (by decide) (fun h' x' I' => ?_)
            refine ok_iret dX5_steps_39 rfl rfl ⟨Nat.le_of_ble_eq_true rfl, Nat.le_of_ble_eq_true rfl⟩ ?_
            exact k h' (x'.m (by decide)) ⟨_, _, _, _, I'⟩
          refine ok_aload_n dX5_steps_16 rfl rfl ?_
          refine ok_get dX5_steps_17 fl_X5_13 (by assumption) (by rfl) ?_
          refine ok_iload_n dX5_steps_20 rfl ?_
          first | refine okN_iald dX5_steps_21 (by assumption) (by omega) (by decide) ?_ | refine okF_iald dX5_steps_21 (by assumption) (by omega) (by omega) ?_ | refine okN_kald dX5_steps_21 (by assumption) (by omega) (by decide) ?_
          rw [f1 a q2]
          cases hta : S.1 a with
          | false =>
            rw [if_neg (by decide)]
            refine ok_if_lt (tgt := 34) dX5_steps_22 (by decide) (fun c4 => ?_) (fun c4 => ?_)
            · exact bad (fun z => by rw [hta] at z; exact absurd z.1 (by decide))
            · exact absurd (by decide) c4
          | true =>
            rw [if_pos rfl]
            have ola := k6 a q2 hta
            have hla := ola.len
            have hsa := ola.2.2
            refine okN_if_lt (tgt := 34) dX5_steps_22 (by decide) (by omega) ?_
            refine ok_aload_n dX5_steps_25 rfl rfl ?_
            refine ok_get dX5_steps_26 fl_X5_13 (by assumption) (by rfl) ?_
            refine ok_iload_n dX5_steps_29 rfl ?_
            first | refine okN_iald dX5_steps_30 (by assumption) (by omega) (by decide) ?_ | refine okF_iald dX5_steps_30 (by assumption) (by omega) (by omega) ?_ | refine okN_kald dX5_steps_30 (by assumption) (by omega) (by decide) ?_
            rw [f1 b p2]
            cases htb : S.1 b with
            | false =>
              rw [if_neg (by decide)]
              refine ok_if_ge (tgt := 40) dX5_steps_31 (by decide) (fun c5 => ?_) (fun c5 => ?_)
              · exact absurd c5 (by decide)
              · exact bad (fun z => by rw [htb] at z; exact absurd z.2 (by decide))
            | true =>
              rw [if_pos rfl]
              have olb := k6 b p2 htb
              have hlb := olb.len
              have hsb := olb.2.2
              rw [if_pos ⟨hta, htb⟩] at k
              refine okN_if_ge (tgt := 40) dX5_steps_31 (by decide) (by omega) ?_
              refine ok_aload_n dX5_steps_40 rfl rfl ?_
              refine ok_iload_n dX5_steps_41 rfl ?_
              refine call_X5_cards dX5_steps_42 lk_X5_84 ⟨Nat.le_of_ble_eq_true rfl, Nat.le_of_ble_eq_true rfl, Nat.le_of_ble_eq_true rfl⟩ (by assumption) (Nat.le_of_ble_eq_true rfl) ?_
              refine c_X5_cards I q2 hta ?_
              refine ok_aload_n dX5_steps_45 rfl rfl ?_
              refine ok_iload_n dX5_steps_46 rfl ?_
              refine call_X5_cards dX5_steps_47 lk_X5_84 ⟨Nat.le_of_ble_eq_true rfl, Nat.le_of_ble_eq_true rfl, Nat.le_of_ble_eq_true rfl⟩ (by assumption) (Nat.le_of_ble_eq_true rfl) ?_
              refine c_X5_cards I p2 htb ?_
              dsimp only [m_push]
              refine okN_icmp_eq (tgt := 56) dX5_steps_50 (by decide) (by omega) (by omega) (fun c6 => ?_) (fun c6 => ?_)
              · rw [if_pos c6] at k
                refine ok_aload_n dX5_steps_56 rfl rfl ?_
                refine ok_iload_n dX5_steps_57 rfl ?_
                refine call_X5_stepped dX5_steps_58 lk_X5_143 ⟨Nat.le_of_ble_eq_true rfl, Nat.le_of_ble_eq_true rfl, Nat.le_of_ble_eq_true rfl⟩ (by assumption) (Nat.le_of_ble_eq_true rfl) ?_
                refine c_X5_stepped I (fun z => ?_) (fun j h' z1 z2 x' I' => ?_) (fun j h1 z1 z2 z3 z4 x1 I1 st1 => ?_)
                · rw [q1] at z; cases z
                · rw [q1] at z1; cases z1; rw [hta] at z2; cases z2
                · have ej : j = a := by rw [q1] at z1; exact (Option.some.inj z1).symm
                  subst ej
                  have e01 := I1.1
                  have hs2 : sno S j < 76 := (nb_NN ola k7).1
                  have hk2 : kno S j < NN (sno S j) := (nb_NN ola k7).2
                  have hk3 : kno S b < NN (sno S j) := by
                    have := (nb_NN olb k7).2
                    unfold sno
                    rw [c6]
                    exact this
                  refine ok_istore_n dX5_steps_61 (st_6_3 rfl) (Nat.le_of_ble_eq_true rfl) ?_
                  refine ok_aload_n dX5_steps_62 rfl rfl ?_
                  refine ok_iload_n dX5_steps_63 rfl ?_
                  refine call_X5_load dX5_steps_64 lk_X5_118 ⟨Nat.le_of_ble_eq_true rfl, Nat.le_of_ble_eq_true rfl, Nat.le_of_ble_eq_true rfl⟩ (by assumption) (Nat.le_of_ble_eq_true rfl) ?_
                  refine c_X5_load I1 p2 htb (fun h2 x2 I2 R2 => ?_)
                  have e02 := I2.1
                  obtain ⟨l1, L2⟩ := I2.lst (n := (S.2.1 j).sum) (by omega)
                  have st2 := st1.at x2 (fun a l1 l2 => by simp <;> omega)
                  refine ok_aload_n dX5_steps_67 rfl rfl ?_
                  refine call_X5_rankRow dX5_steps_68 lk_X5_121 ⟨Nat.le_of_ble_eq_true rfl, Nat.le_of_ble_eq_true rfl, Nat.le_of_ble_eq_true rfl⟩ (by assumption) (Nat.le_of_ble_eq_true rfl) ?_
                  refine c_X5_rankRow olb (n := (S.2.1 j).sum) (by omega) c6.symm (by rw [← l1]; exact e02) R2 L2 ?_
                  refine ok_istore dX5_steps_71 (st_6_4 rfl) (Nat.le_of_ble_eq_true rfl) ?_
                  refine ok_iconst (v := nI 0) dX5_steps_73 (by decide) ?_
                  refine ok_istore dX5_steps_74 (st_6_5 rfl) (Nat.le_of_ble_eq_true rfl) ?_
                  have K := k h2 ((x1.tr x2 (C := [46, 51, 52, 53, 54, 55, 56, 57, 58]) (by simp) (by simp)).m (by decide)) ⟨_, _, _, _, I2⟩
                  exact l_X5_steps hs2 hk3 e02 st2.1 (NN (sno S j) + 1) 0 (kno S j) (by omega) hk2 (by rw [fs_N hs2 hk2]; exact K)
              · rw [if_neg c6] at k
                refine ok_bipush (v := -9) dX5_steps_53 (by decide) ?_
                refine ok_iret dX5_steps_55 rfl rfl ⟨Nat.le_of_ble_eq_true rfl, Nat.le_of_ble_eq_true rfl⟩ ?_
                exact k h fM.rf ⟨_, _, _, _, I⟩
        · exact absurd c2 (by decide)
      · rw [z] at k
        dsimp only at k
        refine okN_if_ne (tgt := 16) dX5_steps_11 (by decide) (by omega) (fun c2 => ?_) (fun c2 => ?_)
        · exact absurd c2 (by decide)
        · refine ok_iconst (v := -1) dX5_steps_14 (by decide) ?_
          refine ok_iret dX5_steps_15 rfl rfl ⟨Nat.le_of_ble_eq_true rfl, Nat.le_of_ble_eq_true rfl⟩ ?_
          exact k h fM.rf ⟨_, _, _, _, I⟩
  · rw [z] at k
    dsimp only at k
    refine okN_if_eq (tgt := 14) dX5_steps_4 (by decide) (by omega) (fun c1 => ?_) (fun c1 => ?_)
    · refine ok_iconst (v := -1) dX5_steps_14 (by decide) ?_
      refine ok_iret dX5_steps_15 rfl rfl ⟨Nat.le_of_ble_eq_true rfl, Nat.le_of_ble_eq_true rfl⟩ ?_
      exact k h fM.rf ⟨_, _, _, _, I⟩
    · exact absurd c1 (by decide)
end MSTEPQ
