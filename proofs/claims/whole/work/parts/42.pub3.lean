theorem c18_no {c : Int32} (e : pl 19 c = none) : c18 c = none := by unfold c18; rw [e]
theorem c18_0 : c18 (nI 0) = none := by decide
theorem c18_m {m : Nat} (h1 : 1 ≤ m) (h2 : m < 19) : c18 (nI m) = some m := by
  unfold c18
  rw [pl_nI (by decide) h2]
  dsimp only
  rw [if_neg (by omega)]
theorem ppN_nil : ∀ (l : List Nat), okl l → ∀ i, i ≤ l.length → ppN l 0 [] i = l.take i := by
  intro l hl i
  induction i with
  | zero => intro _; simp [ppN]
  | succ i ih =>
    intro hi
    unfold ppN
    rw [ih (by omega), Nat.zero_add]
    have e1 : l.take (i + 1) = l.take i ++ [l.getD i 0] := by
      rw [List.take_succ, List.getD_eq_getElem?_getD]
      cases e : l[i]? with
      | none => rw [List.getElem?_eq_none_iff] at e; omega
      | some v => simp
    rw [e1]
    have key : ∀ (t : List Nat) (x : Nat), (∀ y ∈ t, x ≤ y) → ins x t = t ++ [x] := by
      intro t x
      induction t with
      | nil => intro _; rfl
      | cons y t iht =>
        intro hy
        unfold ins
        rw [if_neg (by have := hy y (by simp); omega), iht (fun z hz => hy z (List.mem_cons_of_mem _ hz))]
        rfl
    refine key _ _ (fun y hy => ?_)
    obtain ⟨j, hj, e⟩ := List.getElem_of_mem hy
    rw [List.length_take] at hj
    rw [List.getElem_take] at e
    have := srt_get l j i hl.1 (by omega) (by omega)
    rw [List.getD_eq_getElem?_getD (i := j), List.getElem?_eq_getElem (by omega)] at this
    rw [← e]
    exact this
theorem kdI_lt (s k : Nat) : kdI s k < 4 := by
  unfold kdI
  (repeat' split) <;> decide
section PUB3
variable {g : mG} {h : mH} {Q : Option Value → mH → Prop} {S : ST}
theorem p_X4_heap {p c : Int32} (I : IX h S) (k : ∀ h', fX h h' → IX h' (sp_heap S p c).2 → Q (some (.int (sp_heap S p c).1)) h') : Ok g MX4_heap (m_J g MX4_heap Q) 0 [some (.ref 0), some (.int p), some (.int c), none] [] h 0 0 := by
  have e0 := I.1
  unfold sp_heap ofp at k
  refine ok_iload_n dX4_heap_0 rfl ?_
  refine call_X4_isPlace dX4_heap_1 lk_X4_51 ⟨Nat.le_of_ble_eq_true rfl, Nat.le_of_ble_eq_true rfl, Nat.le_of_ble_eq_true rfl⟩ (Nat.le_of_ble_eq_true rfl) ?_
  refine c_X4_isPlace (fun j q1 q2 q3 => ?_) (fun q => ?_)
  · rw [q1] at k
    dsimp only at k
    refine okN_if_eq (tgt := 18) dX4_heap_4 (by decide) (by omega) (fun c1 => ?_) (fun c1 => ?_)
    · exact absurd c1 (by decide)
    · rcases pl_cases 19 c (by decide) with e | ⟨m, e, hm, rfl⟩
      · rw [c18_no e] at k
        dsimp only at k
        have pn := pl_not e
        refine ok_iload_n dX4_heap_7 rfl ?_
        refine ok_iconst (v := nI 1) dX4_heap_8 (by decide) ?_
        refine ok_icmp_lt (tgt := 18) dX4_heap_9 (by decide) (fun c2 => ?_) (fun c2 => ?_)
        · refine ok_iconst (v := -1) dX4_heap_18 (by decide) ?_
          refine ok_iret dX4_heap_19 rfl rfl ⟨Nat.le_of_ble_eq_true rfl, Nat.le_of_ble_eq_true rfl⟩ ?_
          exact k h fX.rf I
        · refine ok_iload_n dX4_heap_12 rfl ?_
          refine ok_bipush (v := nI 18) dX4_heap_13 (by decide) ?_
          refine ok_icmp_le (tgt := 20) dX4_heap_15 (by decide) (fun c3 => ?_) (fun c3 => ?_)
          · rw [tI_lt (by decide)] at c2
            rw [tI_le (by decide)] at c3
            omega
          · refine ok_iconst (v := -1) dX4_heap_18 (by decide) ?_
            refine ok_iret dX4_heap_19 rfl rfl ⟨Nat.le_of_ble_eq_true rfl, Nat.le_of_ble_eq_true rfl⟩ ?_
            exact k h fX.rf I
      · refine ok_iload_n dX4_heap_7 rfl ?_
        refine ok_iconst (v := nI 1) dX4_heap_8 (by decide) ?_
        refine okN_icmp_lt (tgt := 18) dX4_heap_9 (by decide) (by omega) (by omega) (fun c2 => ?_) (fun c2 => ?_)
        · have e1 : m = 0 := by omega
          subst e1
          rw [c18_0] at k
          refine ok_iconst (v := -1) dX4_heap_18 (by decide) ?_
          refine ok_iret dX4_heap_19 rfl rfl ⟨Nat.le_of_ble_eq_true rfl, Nat.le_of_ble_eq_true rfl⟩ ?_
          exact k h fX.rf I
        · rw [c18_m c2 hm] at k
          dsimp only at k
          refine ok_iload_n dX4_heap_12 rfl ?_
          refine ok_bipush (v := nI 18) dX4_heap_13 (by decide) ?_
          refine okN_icmp_le (tgt := 20) dX4_heap_15 (by decide) (by omega) (by omega) (fun c3 => ?_) (fun c3 => ?_)
          · refine ok_aload_n dX4_heap_20 rfl rfl ?_
            refine ok_iload_n dX4_heap_21 rfl ?_
            refine call_X4_rowAt dX4_heap_22 lk_X4_58 ⟨Nat.le_of_ble_eq_true rfl, Nat.le_of_ble_eq_true rfl, Nat.le_of_ble_eq_true rfl⟩ (by assumption) (Nat.le_of_ble_eq_true rfl) ?_
            refine c_X4_rowAt I (fun j' w1 w2 w3 => ?_) (fun w => ?_)
            · have ej : j' = j := by rw [q1] at w1; exact (Option.some.inj w1).symm
              subst ej
              rw [if_pos w3] at k
              obtain ⟨ol, rr⟩ := I.2.2.2.2.2.2.2.2.2.2.row q2 w3
              have er := rr.1
              have hsum := ol.2.2
              refine ok_astore_n dX4_heap_25 (st_4_3 rfl) (Nat.le_of_ble_eq_true rfl) rfl ?_
              refine ok_aload_n dX4_heap_26 rfl rfl ?_
              refine ok_ifnonnull (tgt := 36) dX4_heap_27 (by decide) rfl (fun c4 => ?_) (fun c4 => ?_)
              · refine ok_aload_n dX4_heap_36 rfl rfl ?_
                refine ok_iload_n dX4_heap_37 rfl ?_
                refine call_X3_hasRoomFor dX4_heap_38 lk_X4_66 ⟨Nat.le_of_ble_eq_true rfl, Nat.le_of_ble_eq_true rfl, Nat.le_of_ble_eq_true rfl⟩ (by assumption) (Nat.le_of_ble_eq_true rfl) ?_
                refine c_X3_hasRoomFor er hsum (by omega) (fun c5 => ?_) (fun c5 => ?_)
                · rw [if_pos c5] at k
                  refine okN_if_ne (tgt := 47) dX4_heap_41 (by decide) (by omega) (fun c6 => ?_) (fun c6 => ?_)
                  · refine ok_aload_n dX4_heap_47 rfl rfl ?_
                    refine ok_iload_n dX4_heap_48 rfl ?_
                    refine call_X3_put dX4_heap_49 lk_X4_69 ⟨Nat.le_of_ble_eq_true rfl, Nat.le_of_ble_eq_true rfl, Nat.le_of_ble_eq_true rfl⟩ (by assumption) (Nat.le_of_ble_eq_true rfl) ?_
                    refine c_X3_put rr (by omega) ol c2 c5 (fun h1 x1 r1 => ?_)
                    have er1 := r1.1
                    rw [ins_len] at er1
                    refine ok_aload_n dX4_heap_52 rfl rfl ?_
                    refine ok_get dX4_heap_53 fl_X4_73 (by assumption) (by rfl) ?_
                    refine ok_iret dX4_heap_56 rfl rfl ⟨Nat.le_of_ble_eq_true rfl, Nat.le_of_ble_eq_true rfl⟩ ?_
                    exact k h1 (x1.w.f (by simp <;> omega)) (I.setP q2 w3 x1 (okl_ins ol c2 c5) r1)
                  · exact absurd c6 (by decide)
                · rw [if_neg (by omega)] at k
                  refine okN_if_ne (tgt := 47) dX4_heap_41 (by decide) (by omega) (fun c6 => ?_) (fun c6 => ?_)
                  · exact absurd c6 (by decide)
                  · refine ok_bipush (v := -2) dX4_heap_44 (by decide) ?_
                    refine ok_iret dX4_heap_46 rfl rfl ⟨Nat.le_of_ble_eq_true rfl, Nat.le_of_ble_eq_true rfl⟩ ?_
                    exact k h fX.rf I
              · cases c4
            · rw [if_neg (by rw [w j q1]; decide)] at k
              refine ok_astore_n dX4_heap_25 (st_4_3 rfl) (Nat.le_of_ble_eq_true rfl) rfl ?_
              refine ok_aload_n dX4_heap_26 rfl rfl ?_
              refine ok_ifnonnull (tgt := 36) dX4_heap_27 (by decide) rfl (fun c4 => ?_) (fun c4 => ?_)
              · exact absurd rfl c4
              · refine ok_aload_n dX4_heap_30 rfl rfl ?_
                refine ok_iconst (v := nI 1) dX4_heap_31 (by decide) ?_
                refine call_X4_found dX4_heap_32 lk_X4_62 ⟨Nat.le_of_ble_eq_true rfl, Nat.le_of_ble_eq_true rfl, Nat.le_of_ble_eq_true rfl⟩ (by assumption) (Nat.le_of_ble_eq_true rfl) ?_
                refine c_X4_found I (by decide) (fun h' x' I' => ?_)
                refine ok_iret dX4_heap_35 rfl rfl ⟨Nat.le_of_ble_eq_true rfl, Nat.le_of_ble_eq_true rfl⟩ ?_
                exact k h' (x'.w.f (by decide)) I'
          · exact absurd c3 (by omega)
  · refine okN_if_eq (tgt := 18) dX4_heap_4 (by decide) (by omega) (fun c1 => ?_) (fun c1 => ?_)
    · rw [q] at k
      refine ok_iconst (v := -1) dX4_heap_18 (by decide) ?_
      refine ok_iret dX4_heap_19 rfl rfl ⟨Nat.le_of_ble_eq_true rfl, Nat.le_of_ble_eq_true rfl⟩ ?_
      cases e : c18 c with
      | none => rw [e] at k; exact k h fX.rf I
      | some m => rw [e] at k; exact k h fX.rf I
    · exact absurd c1 (by decide)
theorem p_X4_list {p n kk : Int32} (I : IX h S) (k : ∀ h', fX h h' → IX h' (sp_list S p n kk).2 → Q (some (.int (sp_list S p n kk).1)) h') : Ok g MX4_list (m_J g MX4_list Q) 0 [some (.ref 0), some (.int p), some (.int n), some (.int kk)] [] h 0 0 := by
  obtain ⟨e0, -, ⟨F1, e1, f1⟩, ⟨F2, e2, f2⟩, -, ls, -, -, -, -, i8⟩ := id I
  have els := ls.1
  unfold sp_list at k
  refine ok_iload_n dX4_list_0 rfl ?_
  refine call_X4_isPlace dX4_list_1 lk_X4_51 ⟨Nat.le_of_ble_eq_true rfl, Nat.le_of_ble_eq_true rfl, Nat.le_of_ble_eq_true rfl⟩ (Nat.le_of_ble_eq_true rfl) ?_
  refine c_X4_isPlace (fun j q1 q2 q3 => ?_) (fun q => ?_)
  · rw [q1] at k
    subst q3
    obtain ⟨l0, o0, rr, -⟩ := i8 j q2
    refine okN_if_eq (tgt := 14) dX4_list_4 (by decide) (by omega) (fun c1 => ?_) (fun c1 => ?_)
    · exact absurd c1 (by decide)
    · refine ok_iload_n dX4_list_7 rfl ?_
      refine call_X4_isCards dX4_list_8 lk_X4_113 ⟨Nat.le_of_ble_eq_true rfl, Nat.le_of_ble_eq_true rfl, Nat.le_of_ble_eq_true rfl⟩ (Nat.le_of_ble_eq_true rfl) ?_
      refine c_X4_isCards (fun m w1 w2 w3 => ?_) (fun w => ?_)
      · rw [w1] at k
        dsimp only at k
        subst w3
        have cl := cap_lt w2 w2
        refine okN_if_ne (tgt := 16) dX4_list_11 (by decide) (by omega) (fun c2 => ?_) (fun c2 => ?_)
        · rcases pl_cases (cap m m) kk (by omega) with e | ⟨x, e, hxx, rfl⟩
          · rw [e] at k
            dsimp only at k
            have pn := pl_not e
            refine ok_iload_n dX4_list_16 rfl ?_
            refine ok_if_lt (tgt := 32) dX4_list_17 (by decide) (fun c3 => ?_) (fun c3 => ?_)
            · refine ok_bipush (v := -9) dX4_list_32 (by decide) ?_
              refine ok_iret dX4_list_34 rfl rfl ⟨Nat.le_of_ble_eq_true rfl, Nat.le_of_ble_eq_true rfl⟩ ?_
              exact k h fX.rf I
            · refine ok_iload_n dX4_list_20 rfl ?_
              refine ok_aload_n dX4_list_21 rfl rfl ?_
              refine ok_get dX4_list_22 fl_X4_26 (by assumption) (by rfl) ?_
              refine ok_iload_n dX4_list_25 rfl ?_
              refine call_X1_length dX4_list_26 lk_X4_116 ⟨Nat.le_of_ble_eq_true rfl, Nat.le_of_ble_eq_true rfl, Nat.le_of_ble_eq_true rfl⟩ (by assumption) (Nat.le_of_ble_eq_true rfl) ?_
              refine c_X1_length ls w2 ?_
              dsimp only [m_push]
              refine ok_icmp_lt (tgt := 35) dX4_list_29 (by decide) (fun c4 => ?_) (fun c4 => ?_)
              · rw [tI_lt (by omega)] at c4
                rw [tI_0] at c3
                omega
              · refine ok_bipush (v := -9) dX4_list_32 (by decide) ?_
                refine ok_iret dX4_list_34 rfl rfl ⟨Nat.le_of_ble_eq_true rfl, Nat.le_of_ble_eq_true rfl⟩ ?_
                exact k h fX.rf I
          · rw [e] at k
            dsimp only at k
            refine ok_iload_n dX4_list_16 rfl ?_
            refine okN_if_lt (tgt := 32) dX4_list_17 (by decide) (by omega) ?_
            refine ok_iload_n dX4_list_20 rfl ?_
            refine ok_aload_n dX4_list_21 rfl rfl ?_
            refine ok_get dX4_list_22 fl_X4_26 (by assumption) (by rfl) ?_
            refine ok_iload_n dX4_list_25 rfl ?_
            refine call_X1_length dX4_list_26 lk_X4_116 ⟨Nat.le_of_ble_eq_true rfl, Nat.le_of_ble_eq_true rfl, Nat.le_of_ble_eq_true rfl⟩ (by assumption) (Nat.le_of_ble_eq_true rfl) ?_
            refine c_X1_length ls w2 ?_
            dsimp only [m_push]
            refine okN_icmp_lt (tgt := 35) dX4_list_29 (by decide) (by omega) (by omega) (fun c4 => ?_) (fun c4 => ?_)
            · refine ok_aload_n dX4_list_35 rfl rfl ?_
              refine ok_get dX4_list_36 fl_X4_15 (by assumption) (by rfl) ?_
              refine ok_iload_n dX4_list_39 rfl ?_
              refine ok_iconst (v := nI 1) dX4_list_40 (by decide) ?_
              refine okN_zast dX4_list_41 (by rfl) (by assumption) (by omega) (by decide) (fun h1 hx1 he1 => ?_)
              have e01 := hx1.at (by decide) e0
              have e11 := hx1.at (by decide) e1
              have ls1 := ls.at hx1 (by decide) (by decide)
              have els1 := ls1.1
              have rr1 := rr.at hx1 (by simp <;> omega) (by simp <;> omega)
              have er1 := rr1.1
              refine ok_aload_n dX4_list_42 rfl rfl ?_
              refine ok_get dX4_list_43 fl_X4_26 (by assumption) (by rfl) ?_
              refine ok_aload_n dX4_list_46 rfl rfl ?_
              refine ok_get dX4_list_47 fl_X4_11 (by assumption) (by rfl) ?_
              refine ok_iload_n dX4_list_50 rfl ?_
              first | refine okN_aald (t := 3) dX4_list_51 rfl (by assumption) (by omega) (by decide) ?_ | refine okN_aald (t := 4) dX4_list_51 rfl (by assumption) (by omega) (by decide) ?_
              rw [f1 j q2]
              dsimp only [m_rv]
              refine ok_iload_n dX4_list_52 rfl ?_
              refine ok_iload_n dX4_list_53 rfl ?_
              refine call_X1_write dX4_list_54 lk_X4_119 ⟨Nat.le_of_ble_eq_true rfl, Nat.le_of_ble_eq_true rfl, Nat.le_of_ble_eq_true rfl⟩ (by assumption) (Nat.le_of_ble_eq_true rfl) ?_
              refine c_X1_write ls1 rr1 (by omega) (by omega) (by omega) (by omega) (by omega) w2 (by omega) (fun h2 x2 r2 o2 => ?_)
              refine ok_iconst (v := nI 1) dX4_list_57 (by decide) ?_
              refine ok_iret dX4_list_58 rfl rfl ⟨Nat.le_of_ble_eq_true rfl, Nat.le_of_ble_eq_true rfl⟩ ?_
              exact k h2 ((hx1.tr x2 (C := [2, 22 + 2 * j, 23 + 2 * j]) (by simp) (by simp)).w.f (by simp <;> omega)) (I.setTP q2 (hx1.tr x2 (by simp) (by simp)) o2 r2 (I2_up true f2 (x2.at (by simp <;> omega) he1)))
            · exact absurd c4 (by omega)
        · exact absurd c2 (by decide)
      · rw [w] at k
        dsimp only at k
        refine okN_if_ne (tgt := 16) dX4_list_11 (by decide) (by omega) (fun c2 => ?_) (fun c2 => ?_)
        · exact absurd c2 (by decide)
        · refine ok_iconst (v := -1) dX4_list_14 (by decide) ?_
          refine ok_iret dX4_list_15 rfl rfl ⟨Nat.le_of_ble_eq_true rfl, Nat.le_of_ble_eq_true rfl⟩ ?_
          exact k h fX.rf I
  · rw [q] at k
    dsimp only at k
    refine okN_if_eq (tgt := 14) dX4_list_4 (by decide) (by omega) (fun c1 => ?_) (fun c1 => ?_)
    · refine ok_iconst (v := -1) dX4_list_14 (by decide) ?_
      refine ok_iret dX4_list_15 rfl rfl ⟨Nat.le_of_ble_eq_true rfl, Nat.le_of_ble_eq_true rfl⟩ ?_
      exact k h fX.rf I
    · exact absurd c1 (by decide)
theorem p_X4_step {p kk : Int32} (I : IX h S) (h64 : 64 ≤ h.1) (k : ∀ h', fX h h' → IX h' (sp_step S p kk).2 → Q (some (.int (sp_step S p kk).1)) h') : Ok g MX4_step (m_J g MX4_step Q) 0 [some (.ref 0), some (.int p), some (.int kk), none, none, none] [] h 0 0 := by
  have e0 := I.1
  have hr := I.2.1
  unfold sp_step ofp at k
  refine ok_iload_n dX4_step_0 rfl ?_
  refine call_X4_isPlace dX4_step_1 lk_X4_51 ⟨Nat.le_of_ble_eq_true rfl, Nat.le_of_ble_eq_true rfl, Nat.le_of_ble_eq_true rfl⟩ (Nat.le_of_ble_eq_true rfl) ?_
  refine c_X4_isPlace (fun j q1 q2 q3 => ?_) (fun q => ?_)
  · rw [q1] at k
    dsimp only at k
    refine okN_if_eq (tgt := 18) dX4_step_4 (by decide) (by omega) (fun c1 => ?_) (fun c1 => ?_)
    · exact absurd c1 (by decide)
    · rcases pl_cases 1001 kk (by decide) with e | ⟨m, e, hm, rfl⟩
      · rw [e] at k
        dsimp only at k
        have pn := pl_not e
        refine ok_iload_n dX4_step_7 rfl ?_
        refine ok_if_lt (tgt := 18) dX4_step_8 (by decide) (fun c2 => ?_) (fun c2 => ?_)
        · refine ok_iconst (v := -1) dX4_step_18 (by decide) ?_
          refine ok_iret dX4_step_19 rfl rfl ⟨Nat.le_of_ble_eq_true rfl, Nat.le_of_ble_eq_true rfl⟩ ?_
          exact k h fX.rf I
        · refine ok_iload_n dX4_step_11 rfl ?_
          refine ok_sipush (v := nI 1000) dX4_step_12 (by decide) ?_
          refine ok_icmp_le (tgt := 20) dX4_step_15 (by decide) (fun c3 => ?_) (fun c3 => ?_)
          · rw [tI_0] at c2
            rw [tI_le (by decide)] at c3
            omega
          · refine ok_iconst (v := -1) dX4_step_18 (by decide) ?_
            refine ok_iret dX4_step_19 rfl rfl ⟨Nat.le_of_ble_eq_true rfl, Nat.le_of_ble_eq_true rfl⟩ ?_
            exact k h fX.rf I
      · rw [e] at k
        dsimp only at k
        refine ok_iload_n dX4_step_7 rfl ?_
        refine okN_if_lt (tgt := 18) dX4_step_8 (by decide) (by omega) ?_
        refine ok_iload_n dX4_step_11 rfl ?_
        refine ok_sipush (v := nI 1000) dX4_step_12 (by decide) ?_
        refine okN_icmp_le (tgt := 20) dX4_step_15 (by decide) (by omega) (by omega) (fun c3 => ?_) (fun c3 => ?_)
        · refine ok_aload_n dX4_step_20 rfl rfl ?_
          refine ok_iload_n dX4_step_21 rfl ?_
          refine call_X4_rowAt dX4_step_22 lk_X4_58 ⟨Nat.le_of_ble_eq_true rfl, Nat.le_of_ble_eq_true rfl, Nat.le_of_ble_eq_true rfl⟩ (by assumption) (Nat.le_of_ble_eq_true rfl) ?_
          refine c_X4_rowAt I (fun j' w1 w2 w3 => ?_) (fun w => ?_)
          · have ej : j' = j := by rw [q1] at w1; exact (Option.some.inj w1).symm
            subst ej
            rw [if_pos w3] at k
            obtain ⟨ol, rr⟩ := I.2.2.2.2.2.2.2.2.2.2.row q2 w3
            have er := rr.1
            have hsum := ol.2.2
            refine ok_astore_n dX4_step_25 (st_6_3 rfl) (Nat.le_of_ble_eq_true rfl) rfl ?_
            refine ok_aload_n dX4_step_26 rfl rfl ?_
            refine ok_ifnonnull (tgt := 36) dX4_step_27 (by decide) rfl (fun c4 => ?_) (fun c4 => ?_)
            · refine ok_aload_n dX4_step_36 rfl rfl ?_
              refine ok_get dX4_step_37 fl_X4_90 (by assumption) (by rfl) ?_
              refine ok_istore dX4_step_40 (st_6_4 rfl) (Nat.le_of_ble_eq_true rfl) ?_
              refine ok_aload_n dX4_step_42 rfl rfl ?_
              refine ok_iload dX4_step_43 rfl ?_
              refine call_X4_chartOf dX4_step_45 lk_X4_96 ⟨Nat.le_of_ble_eq_true rfl, Nat.le_of_ble_eq_true rfl, Nat.le_of_ble_eq_true rfl⟩ (by assumption) (Nat.le_of_ble_eq_true rfl) ?_
              refine c_X4_chartOf I (by omega) h64 (fun h1 qc f1 I1 ch => ?_)
              obtain ⟨ol1, rr1⟩ := I1.2.2.2.2.2.2.2.2.2.2.row q2 w3
              have er1 := rr1.1
              have e01 := I1.1
              have ls1 := I1.2.2.2.2.2.1
              have els1 := ls1.1
              have ec1 := ch.1
              obtain ⟨hs1, hk1⟩ := nb_NN ol hr
              refine ok_aload_n dX4_step_48 rfl rfl ?_
              refine ok_get dX4_step_49 fl_X4_26 (by assumption) (by rfl) ?_
              refine ok_aload_n dX4_step_52 rfl rfl ?_
              refine call_X1_numberOf dX4_step_53 lk_X4_100 ⟨Nat.le_of_ble_eq_true rfl, Nat.le_of_ble_eq_true rfl, Nat.le_of_ble_eq_true rfl⟩ (by assumption) (Nat.le_of_ble_eq_true rfl) ?_
              refine c_X1_numberOf ls1 rr1 ol ?_
              dsimp only [m_push]
              refine ok_iload_n dX4_step_56 rfl ?_
              refine call_X0_after dX4_step_57 lk_X4_125 ⟨Nat.le_of_ble_eq_true rfl, Nat.le_of_ble_eq_true rfl, Nat.le_of_ble_eq_true rfl⟩ (by assumption) (Nat.le_of_ble_eq_true rfl) ?_
              refine c_X0_after ch hs1 hk1 (by omega) ?_
              have il := it_lt hs1 hk1 m
              have nl := NN_lt hs1
              refine ok_istore dX4_step_60 (st_6_5 rfl) (Nat.le_of_ble_eq_true rfl) ?_
              refine ok_aload_n dX4_step_62 rfl rfl ?_
              refine ok_get dX4_step_63 fl_X4_26 (by assumption) (by rfl) ?_
              refine ok_aload_n dX4_step_66 rfl rfl ?_
              refine ok_iload dX4_step_67 rfl ?_
              refine ok_iload dX4_step_69 rfl ?_
              refine call_X1_write dX4_step_71 lk_X4_119 ⟨Nat.le_of_ble_eq_true rfl, Nat.le_of_ble_eq_true rfl, Nat.le_of_ble_eq_true rfl⟩ (by assumption) (Nat.le_of_ble_eq_true rfl) ?_
              refine c_X1_write ls1 rr1 (by omega) (by omega) (by omega) (by omega) (by omega) (by omega) (by omega) (fun h2 x2 r2 o2 => ?_)
              rw [wr_it hr ol m] at r2 o2
              have er2 := r2.1
              refine ok_aload_n dX4_step_74 rfl rfl ?_
              refine ok_get dX4_step_75 fl_X4_73 (by assumption) (by rfl) ?_
              refine ok_iret dX4_step_78 rfl rfl ⟨Nat.le_of_ble_eq_true rfl, Nat.le_of_ble_eq_true rfl⟩ ?_
              exact k h2 (f1.tr (x2.w.f (by simp <;> omega))) (I1.setP q2 w3 x2 o2 r2)
            · cases c4
          · rw [if_neg (by rw [w j q1]; decide)] at k
            refine ok_astore_n dX4_step_25 (st_6_3 rfl) (Nat.le_of_ble_eq_true rfl) rfl ?_
            refine ok_aload_n dX4_step_26 rfl rfl ?_
            refine ok_ifnonnull (tgt := 36) dX4_step_27 (by decide) rfl (fun c4 => ?_) (fun c4 => ?_)
            · exact absurd rfl c4
            · refine ok_aload_n dX4_step_30 rfl rfl ?_
              refine ok_iconst (v := nI 1) dX4_step_31 (by decide) ?_
              refine call_X4_found dX4_step_32 lk_X4_62 ⟨Nat.le_of_ble_eq_true rfl, Nat.le_of_ble_eq_true rfl, Nat.le_of_ble_eq_true rfl⟩ (by assumption) (Nat.le_of_ble_eq_true rfl) ?_
              refine c_X4_found I (by decide) (fun h' x' I' => ?_)
              refine ok_iret dX4_step_35 rfl rfl ⟨Nat.le_of_ble_eq_true rfl, Nat.le_of_ble_eq_true rfl⟩ ?_
              exact k h' (x'.w.f (by decide)) I'
        · exact absurd c3 (by omega)
  · refine okN_if_eq (tgt := 18) dX4_step_4 (by decide) (by omega) (fun c1 => ?_) (fun c1 => ?_)
    · rw [q] at k
      refine ok_iconst (v := -1) dX4_step_18 (by decide) ?_
      refine ok_iret dX4_step_19 rfl rfl ⟨Nat.le_of_ble_eq_true rfl, Nat.le_of_ble_eq_true rfl⟩ ?_
      cases e : pl 1001 kk with
      | none => rw [e] at k; exact k h fX.rf I
      | some m => rw [e] at k; exact k h fX.rf I
    · exact absurd c1 (by decide)
theorem p_X4_told {p w : Int32} (I : IX h S) (k : ∀ h', fX h h' → IX h' (sp_told S p w).2 → Q (some (.int (sp_told S p w).1)) h') : Ok g MX4_told (m_J g MX4_told Q) 0 [some (.ref 0), some (.int p), some (.int w), none] [] h 0 0 := by
  have e0 := I.1
  unfold sp_told ofp at k
  refine ok_iload_n dX4_told_0 rfl ?_
  refine call_X4_isPlace dX4_told_1 lk_X4_51 ⟨Nat.le_of_ble_eq_true rfl, Nat.le_of_ble_eq_true rfl, Nat.le_of_ble_eq_true rfl⟩ (Nat.le_of_ble_eq_true rfl) ?_
  refine c_X4_isPlace (fun j q1 q2 q3 => ?_) (fun q => ?_)
  · rw [q1] at k
    dsimp only at k
    refine okN_if_eq (tgt := 16) dX4_told_4 (by decide) (by omega) (fun c1 => ?_) (fun c1 => ?_)
    · exact absurd c1 (by decide)
    · rcases pl_cases 4 w (by decide) with e | ⟨m, e, hm, rfl⟩
      · rw [e] at k
        dsimp only at k
        have pn := pl_not e
        refine ok_iload_n dX4_told_7 rfl ?_
        refine ok_if_lt (tgt := 16) dX4_told_8 (by decide) (fun c2 => ?_) (fun c2 => ?_)
        · refine ok_iconst (v := -1) dX4_told_16 (by decide) ?_
          refine ok_iret dX4_told_17 rfl rfl ⟨Nat.le_of_ble_eq_true rfl, Nat.le_of_ble_eq_true rfl⟩ ?_
          exact k h fX.rf I
        · refine ok_iload_n dX4_told_11 rfl ?_
          refine ok_iconst (v := nI 3) dX4_told_12 (by decide) ?_
          refine ok_icmp_le (tgt := 18) dX4_told_13 (by decide) (fun c3 => ?_) (fun c3 => ?_)
          · rw [tI_0] at c2
            rw [tI_le (by decide)] at c3
            omega
          · refine ok_iconst (v := -1) dX4_told_16 (by decide) ?_
            refine ok_iret dX4_told_17 rfl rfl ⟨Nat.le_of_ble_eq_true rfl, Nat.le_of_ble_eq_true rfl⟩ ?_
            exact k h fX.rf I
      · rw [e] at k
        dsimp only at k
        refine ok_iload_n dX4_told_7 rfl ?_
        refine okN_if_lt (tgt := 16) dX4_told_8 (by decide) (by omega) ?_
        refine ok_iload_n dX4_told_11 rfl ?_
        refine ok_iconst (v := nI 3) dX4_told_12 (by decide) ?_
        refine okN_icmp_le (tgt := 18) dX4_told_13 (by decide) (by omega) (by omega) (fun c3 => ?_) (fun c3 => ?_)
        · refine ok_aload_n dX4_told_18 rfl rfl ?_
          refine ok_iload_n dX4_told_19 rfl ?_
          refine call_X4_rowAt dX4_told_20 lk_X4_58 ⟨Nat.le_of_ble_eq_true rfl, Nat.le_of_ble_eq_true rfl, Nat.le_of_ble_eq_true rfl⟩ (by assumption) (Nat.le_of_ble_eq_true rfl) ?_
          refine c_X4_rowAt I (fun j' w1 w2 w3 => ?_) (fun w => ?_)
          · have ej : j' = j := by rw [q1] at w1; exact (Option.some.inj w1).symm
            subst ej
            rw [if_pos w3] at k
            obtain ⟨ol, rr⟩ := I.2.2.2.2.2.2.2.2.2.2.row q2 w3
            have er := rr.1
            have hsum := ol.2.2
            have hlen := ol.len
            refine ok_astore_n dX4_told_23 (st_4_3 rfl) (Nat.le_of_ble_eq_true rfl) rfl ?_
            refine ok_aload_n dX4_told_24 rfl rfl ?_
            refine ok_ifnonnull (tgt := 34) dX4_told_25 (by decide) rfl (fun c4 => ?_) (fun c4 => ?_)
            · refine ok_iload_n dX4_told_34 rfl ?_
              rcases (show m = 0 ∨ m = 1 ∨ m = 2 ∨ m = 3 by omega) with rfl | rfl | rfl | rfl
              · refine ok_tableIn (tgt := 60) (off := 25) dX4_told_35 (by decide) (by decide) (by decide) (by decide) ?_
                refine ok_aload_n dX4_told_60 rfl rfl ?_
                refine ok_get dX4_told_61 fl_X4_90 (by assumption) (by rfl) ?_
                refine ok_iret dX4_told_64 rfl rfl ⟨Nat.le_of_ble_eq_true rfl, Nat.le_of_ble_eq_true rfl⟩ ?_
                exact k h fX.rf I
              · refine ok_tableIn (tgt := 65) (off := 30) dX4_told_35 (by decide) (by decide) (by decide) (by decide) ?_
                refine ok_aload_n dX4_told_65 rfl rfl ?_
                refine ok_get dX4_told_66 fl_X4_73 (by assumption) (by rfl) ?_
                refine ok_iret dX4_told_69 rfl rfl ⟨Nat.le_of_ble_eq_true rfl, Nat.le_of_ble_eq_true rfl⟩ ?_
                exact k h fX.rf I
              · refine ok_tableIn (tgt := 70) (off := 35) dX4_told_35 (by decide) (by decide) (by decide) (by decide) ?_
                refine ok_aload_n dX4_told_70 rfl rfl ?_
                refine ok_iconst (v := nI 0) dX4_told_71 (by decide) ?_
                refine call_X3_heapAt dX4_told_72 lk_X4_80 ⟨Nat.le_of_ble_eq_true rfl, Nat.le_of_ble_eq_true rfl, Nat.le_of_ble_eq_true rfl⟩ (by assumption) (Nat.le_of_ble_eq_true rfl) ?_
                by_cases cl : 0 < (S.2.1 j').length
                · refine c_X3_heapN rr ol cl ?_
                  refine ok_iret dX4_told_75 rfl rfl ⟨Nat.le_of_ble_eq_true rfl, Nat.le_of_ble_eq_true rfl⟩ ?_
                  exact k h fX.rf I
                · obtain ⟨er', F, eF, hF⟩ := rr
                  have e00 : S.2.1 j' = [] := List.eq_nil_of_length_eq_zero (by omega)
                  refine c_X3_heapAt er' eF (by omega) (fun x y1 y2 y3 => absurd y2 (by omega)) (fun _ => ?_)
                  refine ok_iret dX4_told_75 rfl rfl ⟨Nat.le_of_ble_eq_true rfl, Nat.le_of_ble_eq_true rfl⟩ ?_
                  rw [e00] at k
                  exact k h fX.rf I
              · refine ok_tableOut (tgt := 76) dX4_told_35 (by decide) (by decide) ?_
                refine ok_aload_n dX4_told_76 rfl rfl ?_
                refine call_X3_unlikeHeaps dX4_told_77 lk_X4_175 ⟨Nat.le_of_ble_eq_true rfl, Nat.le_of_ble_eq_true rfl, Nat.le_of_ble_eq_true rfl⟩ (by assumption) (Nat.le_of_ble_eq_true rfl) ?_
                refine c_X3_unlikeHeaps rr ol ?_
                refine ok_iret dX4_told_80 rfl rfl ⟨Nat.le_of_ble_eq_true rfl, Nat.le_of_ble_eq_true rfl⟩ ?_
                exact k h fX.rf I
            · cases c4
          · rw [if_neg (by rw [w j q1]; decide)] at k
            refine ok_astore_n dX4_told_23 (st_4_3 rfl) (Nat.le_of_ble_eq_true rfl) rfl ?_
            refine ok_aload_n dX4_told_24 rfl rfl ?_
            refine ok_ifnonnull (tgt := 34) dX4_told_25 (by decide) rfl (fun c4 => ?_) (fun c4 => ?_)
            · exact absurd rfl c4
            · refine ok_aload_n dX4_told_28 rfl rfl ?_
              refine ok_iconst (v := nI 1) dX4_told_29 (by decide) ?_
              refine call_X4_found dX4_told_30 lk_X4_62 ⟨Nat.le_of_ble_eq_true rfl, Nat.le_of_ble_eq_true rfl, Nat.le_of_ble_eq_true rfl⟩ (by assumption) (Nat.le_of_ble_eq_true rfl) ?_
              refine c_X4_found I (by decide) (fun h' x' I' => ?_)
              refine ok_iret dX4_told_33 rfl rfl ⟨Nat.le_of_ble_eq_true rfl, Nat.le_of_ble_eq_true rfl⟩ ?_
              exact k h' (x'.w.f (by decide)) I'
        · exact absurd c3 (by omega)
  · refine okN_if_eq (tgt := 16) dX4_told_4 (by decide) (by omega) (fun c1 => ?_) (fun c1 => ?_)
    · rw [q] at k
      refine ok_iconst (v := -1) dX4_told_16 (by decide) ?_
      refine ok_iret dX4_told_17 rfl rfl ⟨Nat.le_of_ble_eq_true rfl, Nat.le_of_ble_eq_true rfl⟩ ?_
      cases e : pl 4 w with
      | none => rw [e] at k; exact k h fX.rf I
      | some m => rw [e] at k; exact k h fX.rf I
    · exact absurd c1 (by decide)
theorem p_X4_mark {p kd : Int32} (I : IX h S) (h64 : 64 ≤ h.1) (k : ∀ h', fX h h' → IX h' (sp_mark S p kd).2 → Q (some (.int (sp_mark S p kd).1)) h') : Ok g MX4_mark (m_J g MX4_mark Q) 0 [some (.ref 0), some (.int p), some (.int kd), none, none, none, none, none] [] h 0 0 := by
  have e0 := I.1
  have hr := I.2.1
  unfold sp_mark ofp at k
  refine ok_iload_n dX4_mark_0 rfl ?_
  refine call_X4_isPlace dX4_mark_1 lk_X4_51 ⟨Nat.le_of_ble_eq_true rfl, Nat.le_of_ble_eq_true rfl, Nat.le_of_ble_eq_true rfl⟩ (Nat.le_of_ble_eq_true rfl) ?_
  refine c_X4_isPlace (fun j q1 q2 q3 => ?_) (fun q => ?_)
  · rw [q1] at k
    dsimp only at k
    refine okN_if_eq (tgt := 17) dX4_mark_4 (by decide) (by omega) (fun c1 => ?_) (fun c1 => ?_)
    · exact absurd c1 (by decide)
    · rcases pl_cases 4 kd (by decide) with e | ⟨m, e, hm, rfl⟩
      · rw [e] at k
        dsimp only at k
        have pn := pl_not e
        refine ok_iload_n dX4_mark_7 rfl ?_
        refine ok_iconst (v := nI 1) dX4_mark_8 (by decide) ?_
        refine ok_icmp_lt (tgt := 17) dX4_mark_9 (by decide) (fun c2 => ?_) (fun c2 => ?_)
        · refine ok_iconst (v := -1) dX4_mark_17 (by decide) ?_
          refine ok_iret dX4_mark_18 rfl rfl ⟨Nat.le_of_ble_eq_true rfl, Nat.le_of_ble_eq_true rfl⟩ ?_
          exact k h fX.rf I
        · refine ok_iload_n dX4_mark_12 rfl ?_
          refine ok_iconst (v := nI 3) dX4_mark_13 (by decide) ?_
          refine ok_icmp_le (tgt := 19) dX4_mark_14 (by decide) (fun c3 => ?_) (fun c3 => ?_)
          · rw [tI_lt (by decide)] at c2
            rw [tI_le (by decide)] at c3
            omega
          · refine ok_iconst (v := -1) dX4_mark_17 (by decide) ?_
            refine ok_iret dX4_mark_18 rfl rfl ⟨Nat.le_of_ble_eq_true rfl, Nat.le_of_ble_eq_true rfl⟩ ?_
            exact k h fX.rf I
      · rw [e] at k
        dsimp only at k
        refine ok_iload_n dX4_mark_7 rfl ?_
        refine ok_iconst (v := nI 1) dX4_mark_8 (by decide) ?_
        refine okN_icmp_lt (tgt := 17) dX4_mark_9 (by decide) (by omega) (by omega) (fun c2 => ?_) (fun c2 => ?_)
        · rw [if_pos (by omega)] at k
          refine ok_iconst (v := -1) dX4_mark_17 (by decide) ?_
          refine ok_iret dX4_mark_18 rfl rfl ⟨Nat.le_of_ble_eq_true rfl, Nat.le_of_ble_eq_true rfl⟩ ?_
          exact k h fX.rf I
        rw [if_neg (by omega)] at k
        refine ok_iload_n dX4_mark_12 rfl ?_
        refine ok_iconst (v := nI 3) dX4_mark_13 (by decide) ?_
        refine okN_icmp_le (tgt := 19) dX4_mark_14 (by decide) (by omega) (by omega) (fun c3 => ?_) (fun c3 => ?_)
        · refine ok_aload_n dX4_mark_19 rfl rfl ?_
          refine ok_iload_n dX4_mark_20 rfl ?_
          refine call_X4_rowAt dX4_mark_21 lk_X4_58 ⟨Nat.le_of_ble_eq_true rfl, Nat.le_of_ble_eq_true rfl, Nat.le_of_ble_eq_true rfl⟩ (by assumption) (Nat.le_of_ble_eq_true rfl) ?_
          refine c_X4_rowAt I (fun j' w1 w2 w3 => ?_) (fun w => ?_)
          · have ej : j' = j := by rw [q1] at w1; exact (Option.some.inj w1).symm
            subst ej
            rw [if_pos w3] at k
            obtain ⟨ol, rr⟩ := I.2.2.2.2.2.2.2.2.2.2.row q2 w3
            have er := rr.1
            have hsum := ol.2.2
            refine ok_astore_n dX4_mark_24 (st_8_3 rfl) (Nat.le_of_ble_eq_true rfl) rfl ?_
            refine ok_aload_n dX4_mark_25 rfl rfl ?_
            refine ok_ifnonnull (tgt := 35) dX4_mark_26 (by decide) rfl (fun c4 => ?_) (fun c4 => ?_)
            · refine ok_aload_n dX4_mark_35 rfl rfl ?_
              refine ok_aload_n dX4_mark_36 rfl rfl ?_
              refine ok_get dX4_mark_37 fl_X4_90 (by assumption) (by rfl) ?_
              refine call_X4_chartOf dX4_mark_40 lk_X4_96 ⟨Nat.le_of_ble_eq_true rfl, Nat.le_of_ble_eq_true rfl, Nat.le_of_ble_eq_true rfl⟩ (by assumption) (Nat.le_of_ble_eq_true rfl) ?_
              refine c_X4_chartOf I (by omega) h64 (fun h1 qc f1 I1 ch => ?_)
              obtain ⟨ol1, rr1⟩ := I1.2.2.2.2.2.2.2.2.2.2.row q2 w3
              have er1 := rr1.1
              have e01 := I1.1
              have ls1 := I1.2.2.2.2.2.1
              have els1 := ls1.1
              have ec1 := ch.1
              obtain ⟨hs1, hk1⟩ := nb_NN ol hr
              refine ok_astore dX4_mark_43 (st_8_4 rfl) (Nat.le_of_ble_eq_true rfl) rfl ?_
              refine ok_aload_n dX4_mark_45 rfl rfl ?_
              refine ok_get dX4_mark_46 fl_X4_26 (by assumption) (by rfl) ?_
              refine ok_aload_n dX4_mark_49 rfl rfl ?_
              refine call_X1_numberOf dX4_mark_50 lk_X4_100 ⟨Nat.le_of_ble_eq_true rfl, Nat.le_of_ble_eq_true rfl, Nat.le_of_ble_eq_true rfl⟩ (by assumption) (Nat.le_of_ble_eq_true rfl) ?_
              refine c_X1_numberOf ls1 rr1 ol ?_
              refine ok_istore dX4_mark_53 (st_8_5 rfl) (Nat.le_of_ble_eq_true rfl) ?_
              refine ok_aload dX4_mark_55 rfl rfl ?_
              refine ok_iload dX4_mark_57 rfl ?_
              refine call_X0_kindOf dX4_mark_59 lk_X4_104 ⟨Nat.le_of_ble_eq_true rfl, Nat.le_of_ble_eq_true rfl, Nat.le_of_ble_eq_true rfl⟩ (by assumption) (Nat.le_of_ble_eq_true rfl) ?_
              refine c_X0_kindOf ch hs1 hk1 ?_
              have sd : sno S j' = 19 * S.2.2.1 + (S.2.1 j').sum := rfl
              have kn : kno S j' = nb (S.2.1 j') := rfl
              rw [sd, kn] at k
              have kb : kdI (19 * S.2.2.1 + (S.2.1 j').sum) (nb (S.2.1 j')) < 4 := kdI_lt _ _
              generalize kdI (19 * S.2.2.1 + (S.2.1 j').sum) (nb (S.2.1 j')) = kv at k kb ⊢
              have yes : (kv = m ∨ (kv = 2 ∧ m = 1)) → Ok g MX4_mark (m_J g MX4_mark Q) 86 [some (.ref 0), some (.int p), some (.int (nI m)), some (.ref (22 + 2 * j')), some (.ref qc), some (.int (nI (nb (S.2.1 j')))), some (.int (nI kv)), none] [.int (nI 1)] h1 (0 + 8) (0 + 2706) := by
                intro hc6
                rw [if_pos hc6] at k
                refine ok_istore dX4_mark_86 (st_8_7 rfl) (Nat.le_of_ble_eq_true rfl) ?_
                refine ok_iload dX4_mark_88 rfl ?_
                refine okN_if_ne (tgt := 99) dX4_mark_90 (by decide) (by omega) (fun c7 => ?_) (fun c7 => ?_)
                · refine ok_iload_n dX4_mark_99 rfl ?_
                  refine ok_iconst (v := nI 1) dX4_mark_100 (by decide) ?_
                  refine okN_icmp_ne (tgt := 112) dX4_mark_101 (by decide) (by omega) (by omega) (fun c8 => ?_) (fun c8 => ?_)
                  · rw [if_neg c8] at k
                    refine ok_iload_n dX4_mark_112 rfl ?_
                    refine ok_iconst (v := nI 2) dX4_mark_113 (by decide) ?_
                    refine okN_icmp_ne (tgt := 122) dX4_mark_114 (by decide) (by omega) (by omega) (fun c9 => ?_) (fun c9 => ?_)
                    · rw [if_neg c9] at k
                      refine ok_aload dX4_mark_122 rfl rfl ?_
                      refine ok_iload dX4_mark_124 rfl ?_
                      refine call_X0_tailOf dX4_mark_126 lk_X4_110 ⟨Nat.le_of_ble_eq_true rfl, Nat.le_of_ble_eq_true rfl, Nat.le_of_ble_eq_true rfl⟩ (by assumption) (Nat.le_of_ble_eq_true rfl) ?_
                      refine c_X0_tailOf ch hs1 hk1 ?_
                      refine ok_iret dX4_mark_129 rfl rfl ⟨Nat.le_of_ble_eq_true rfl, Nat.le_of_ble_eq_true rfl⟩ ?_
                      exact k h1 f1 I1
                    · rw [if_pos c9] at k
                      refine ok_iload dX4_mark_117 rfl ?_
                      refine ok_goto (tgt := 129) dX4_mark_119 (by decide) ?_
                      refine ok_iret dX4_mark_129 rfl rfl ⟨Nat.le_of_ble_eq_true rfl, Nat.le_of_ble_eq_true rfl⟩ ?_
                      exact k h1 f1 I1
                  · rw [if_pos c8] at k
                    refine ok_aload dX4_mark_104 rfl rfl ?_
                    refine ok_iload dX4_mark_106 rfl ?_
                    refine call_X0_beatOf dX4_mark_108 lk_X4_107 ⟨Nat.le_of_ble_eq_true rfl, Nat.le_of_ble_eq_true rfl, Nat.le_of_ble_eq_true rfl⟩ (by assumption) (Nat.le_of_ble_eq_true rfl) ?_
                    refine c_X0_beatOf ch hs1 hk1 ?_
                    refine ok_iret dX4_mark_111 rfl rfl ⟨Nat.le_of_ble_eq_true rfl, Nat.le_of_ble_eq_true rfl⟩ ?_
                    exact k h1 f1 I1
                · exact absurd c7 (by decide)
              refine ok_istore dX4_mark_62 (st_8_6 rfl) (Nat.le_of_ble_eq_true rfl) ?_
              refine ok_iload dX4_mark_64 rfl ?_
              refine ok_iload_n dX4_mark_66 rfl ?_
              refine okN_icmp_eq (tgt := 81) dX4_mark_67 (by decide) (by omega) (by omega) (fun c6 => ?_) (fun c6 => ?_)
              · refine ok_iconst (v := nI 1) dX4_mark_81 (by decide) ?_
                refine ok_goto (tgt := 86) dX4_mark_82 (by decide) ?_
                exact yes (Or.inl c6)
              · refine ok_iload dX4_mark_70 rfl ?_
                refine ok_iconst (v := nI 2) dX4_mark_72 (by decide) ?_
                refine okN_icmp_ne (tgt := 85) dX4_mark_73 (by decide) (by omega) (by omega) (fun c7 => ?_) (fun c7 => ?_)
                · rw [if_neg (by omega)] at k
                  refine ok_iconst (v := nI 0) dX4_mark_85 (by decide) ?_
                  refine ok_istore dX4_mark_86 (st_8_7 rfl) (Nat.le_of_ble_eq_true rfl) ?_
                  refine ok_iload dX4_mark_88 rfl ?_
                  refine okN_if_ne (tgt := 99) dX4_mark_90 (by decide) (by omega) (fun c8 => ?_) (fun c8 => ?_)
                  · exact absurd c8 (by decide)
                  · refine ok_aload_n dX4_mark_93 rfl rfl ?_
                    refine ok_iconst (v := nI 3) dX4_mark_94 (by decide) ?_
                    refine call_X4_found dX4_mark_95 lk_X4_62 ⟨Nat.le_of_ble_eq_true rfl, Nat.le_of_ble_eq_true rfl, Nat.le_of_ble_eq_true rfl⟩ (by assumption) (Nat.le_of_ble_eq_true rfl) ?_
                    refine c_X4_found I1 (by decide) (fun h' x' I' => ?_)
                    refine ok_iret dX4_mark_98 rfl rfl ⟨Nat.le_of_ble_eq_true rfl, Nat.le_of_ble_eq_true rfl⟩ ?_
                    exact k h' (f1.tr (x'.w.f (by decide))) I'
                · refine ok_iload_n dX4_mark_76 rfl ?_
                  refine ok_iconst (v := nI 1) dX4_mark_77 (by decide) ?_
                  refine okN_icmp_ne (tgt := 85) dX4_mark_78 (by decide) (by omega) (by omega) (fun c8 => ?_) (fun c8 => ?_)
                  · rw [if_neg (by omega)] at k
                    refine ok_iconst (v := nI 0) dX4_mark_85 (by decide) ?_
                    refine ok_istore dX4_mark_86 (st_8_7 rfl) (Nat.le_of_ble_eq_true rfl) ?_
                    refine ok_iload dX4_mark_88 rfl ?_
                    refine okN_if_ne (tgt := 99) dX4_mark_90 (by decide) (by omega) (fun c9 => ?_) (fun c9 => ?_)
                    · exact absurd c9 (by decide)
                    · refine ok_aload_n dX4_mark_93 rfl rfl ?_
                      refine ok_iconst (v := nI 3) dX4_mark_94 (by decide) ?_
                      refine call_X4_found dX4_mark_95 lk_X4_62 ⟨Nat.le_of_ble_eq_true rfl, Nat.le_of_ble_eq_true rfl, Nat.le_of_ble_eq_true rfl⟩ (by assumption) (Nat.le_of_ble_eq_true rfl) ?_
                      refine c_X4_found I1 (by decide) (fun h' x' I' => ?_)
                      refine ok_iret dX4_mark_98 rfl rfl ⟨Nat.le_of_ble_eq_true rfl, Nat.le_of_ble_eq_true rfl⟩ ?_
                      exact k h' (f1.tr (x'.w.f (by decide))) I'
                  · refine ok_iconst (v := nI 1) dX4_mark_81 (by decide) ?_
                    refine ok_goto (tgt := 86) dX4_mark_82 (by decide) ?_
                    exact yes (Or.inr ⟨c7, c8⟩)
            · cases c4
          · rw [if_neg (by rw [w j q1]; decide)] at k
            refine ok_astore_n dX4_mark_24 (st_8_3 rfl) (Nat.le_of_ble_eq_true rfl) rfl ?_
            refine ok_aload_n dX4_mark_25 rfl rfl ?_
            refine ok_ifnonnull (tgt := 35) dX4_mark_26 (by decide) rfl (fun c4 => ?_) (fun c4 => ?_)
            · exact absurd rfl c4
            · refine ok_aload_n dX4_mark_29 rfl rfl ?_
              refine ok_iconst (v := nI 1) dX4_mark_30 (by decide) ?_
              refine call_X4_found dX4_mark_31 lk_X4_62 ⟨Nat.le_of_ble_eq_true rfl, Nat.le_of_ble_eq_true rfl, Nat.le_of_ble_eq_true rfl⟩ (by assumption) (Nat.le_of_ble_eq_true rfl) ?_
              refine c_X4_found I (by decide) (fun h' x' I' => ?_)
              refine ok_iret dX4_mark_34 rfl rfl ⟨Nat.le_of_ble_eq_true rfl, Nat.le_of_ble_eq_true rfl⟩ ?_
              exact k h' (x'.w.f (by decide)) I'
        · exact absurd c3 (by omega)
  · refine okN_if_eq (tgt := 17) dX4_mark_4 (by decide) (by omega) (fun c1 => ?_) (fun c1 => ?_)
    · rw [q] at k
      refine ok_iconst (v := -1) dX4_mark_17 (by decide) ?_
      refine ok_iret dX4_mark_18 rfl rfl ⟨Nat.le_of_ble_eq_true rfl, Nat.le_of_ble_eq_true rfl⟩ ?_
      rcases pl_cases 4 kd (by decide) with e | ⟨m, e, hm, rfl⟩
      · rw [e] at k; exact k h fX.rf I
      · rw [e] at k
        dsimp only at k
        by_cases cm : m = 0
        · rw [if_pos cm] at k; exact k h fX.rf I
        · rw [if_neg cm] at k; exact k h fX.rf I
    · exact absurd c1 (by decide)
end PUB3
