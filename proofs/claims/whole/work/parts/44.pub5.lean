/-! ===== steps, copy ===== -/
theorem drop_getD : ∀ (l : List Nat) (f j : Nat), (l.drop f).getD j 0 = l.getD (f + j) 0
  | [], f, j => by simp
  | x :: t, 0, j => by simp
  | x :: t, f + 1, j => by
    rw [List.drop_succ_cons, drop_getD t f j, show f + 1 + j = (f + j) + 1 by omega, List.getD_cons_succ]
theorem ppN_cong {a b l : List Nat} {f f' : Nat} : ∀ m, (∀ i, i < m → a.getD (f + i) 0 = b.getD (f' + i) 0) → ppN a f l m = ppN b f' l m
  | 0, _ => rfl
  | m + 1, h => by
    unfold ppN
    rw [ppN_cong m (fun i hi => h i (by omega)), h m (by omega)]
theorem srt_drop : ∀ (l : List Nat) (f : Nat), srt l → srt (l.drop f)
  | [], f, h => by simpa using h
  | x :: t, 0, h => h
  | x :: t, f + 1, h => by
    rw [List.drop_succ_cons]
    exact srt_drop t f h.2
theorem okl_drop {l : List Nat} (h : okl l) (f : Nat) : okl (l.drop f) := ⟨srt_drop l f h.1, fun x hx => h.2.1 x (List.mem_of_mem_drop hx), by have := drop_le l f; have := h.2.2; omega⟩
theorem ppN_slice {l : List Nat} (h : okl l) (f i : Nat) (hi : f + i ≤ l.length) : ppN l f [] i = (l.drop f).take i := by
  rw [← ppN_nil (l.drop f) (okl_drop h f) i (by rw [List.length_drop]; omega)]
  exact ppN_cong i (fun j _ => by rw [drop_getD, Nat.zero_add])
theorem take_getD : ∀ (l : List Nat) (i j : Nat), j < i → (l.take i).getD j 0 = l.getD j 0
  | [], i, j, h => by simp
  | x :: t, 0, j, h => by omega
  | x :: t, i + 1, 0, h => by simp
  | x :: t, i + 1, j + 1, h => by
    rw [List.take_succ_cons, List.getD_cons_succ, List.getD_cons_succ]
    exact take_getD t i j (by omega)
theorem ppN_len (a : List Nat) (f : Nat) (l : List Nat) : ∀ m, (ppN a f l m).length = l.length + m
  | 0 => rfl
  | m + 1 => by
    unfold ppN
    rw [ins_len, ppN_len a f l m]
    omega
section PUB5
variable {g : mG} {h : mH} {Q : Option Value → mH → Prop} {S : ST}
theorem p_X4_steps {p q : Int32} (I : IX h S) (h64 : 64 ≤ h.1) (k : ∀ h', fX h h' → IX h' (sp_steps S p q).2 → Q (some (.int (sp_steps S p q).1)) h') : Ok g MX4_steps (m_J g MX4_steps Q) 0 [some (.ref 0), some (.int p), some (.int q), none, none] [] h 0 0 := by
  have e0 := I.1
  have hr := I.2.1
  unfold sp_steps of2 at k
  refine ok_iload_n dX4_steps_0 rfl ?_
  refine call_X4_isPlace dX4_steps_1 lk_X4_51 ⟨Nat.le_of_ble_eq_true rfl, Nat.le_of_ble_eq_true rfl, Nat.le_of_ble_eq_true rfl⟩ (Nat.le_of_ble_eq_true rfl) ?_
  refine c_X4_isPlace (fun i q1 q2 q3 => ?_) (fun z => ?_)
  · rw [q1] at k
    refine okN_if_eq (tgt := 14) dX4_steps_4 (by decide) (by omega) (fun c1 => ?_) (fun c1 => ?_)
    · exact absurd c1 (by decide)
    · refine ok_iload_n dX4_steps_7 rfl ?_
      refine call_X4_isPlace dX4_steps_8 lk_X4_51 ⟨Nat.le_of_ble_eq_true rfl, Nat.le_of_ble_eq_true rfl, Nat.le_of_ble_eq_true rfl⟩ (Nat.le_of_ble_eq_true rfl) ?_
      refine c_X4_isPlace (fun j p1 p2 p3 => ?_) (fun z => ?_)
      · rw [p1] at k
        dsimp only at k
        refine okN_if_ne (tgt := 16) dX4_steps_11 (by decide) (by omega) (fun c2 => ?_) (fun c2 => ?_)
        · refine ok_aload_n dX4_steps_16 rfl rfl ?_
          refine ok_iload_n dX4_steps_17 rfl ?_
          have bad : ¬ (S.1 i = true ∧ S.1 j = true) → ∀ (v3 v4 : Value), m_isA v3 = true → m_isA v4 = true → (v3 = .null ∨ v4 = .null) → Ok g MX4_steps (m_J g MX4_steps Q) 29 [some (.ref 0), some (.int p), some (.int q), some v3, some v4] [] h 0 0 := by
            intro hn v3 v4 a3 a4 hv
            rw [if_neg hn] at k
            have fin : Ok g MX4_steps (m_J g MX4_steps Q) 38 [some (.ref 0), some (.int p), some (.int q), some v3, some v4] [] h 0 0 := by
              refine ok_aload_n dX4_steps_38 rfl rfl ?_
              refine ok_iconst (v := nI 1) dX4_steps_39 (by decide) ?_
              refine call_X4_found dX4_steps_40 lk_X4_62 ⟨Nat.le_of_ble_eq_true rfl, Nat.le_of_ble_eq_true rfl, Nat.le_of_ble_eq_true rfl⟩ (by assumption) (Nat.le_of_ble_eq_true rfl) ?_
              refine c_X4_found I (by decide) (fun h' x' I' => ?_)
              refine ok_iret dX4_steps_43 rfl rfl ⟨Nat.le_of_ble_eq_true rfl, Nat.le_of_ble_eq_true rfl⟩ ?_
              exact k h' (x'.w.f (by decide)) I'
            refine ok_aload_n dX4_steps_29 rfl a3 ?_
            refine ok_ifnull (tgt := 38) dX4_steps_30 (by decide) a3 (fun _ => fin) (fun c3 => ?_)
            refine ok_aload dX4_steps_33 rfl a4 ?_
            refine ok_ifnonnull (tgt := 44) dX4_steps_35 (by decide) a4 (fun c4 => ?_) (fun _ => fin)
            rcases hv with e | e
            · exact absurd e c3
            · exact absurd e c4
          refine call_X4_rowAt dX4_steps_18 lk_X4_58 ⟨Nat.le_of_ble_eq_true rfl, Nat.le_of_ble_eq_true rfl, Nat.le_of_ble_eq_true rfl⟩ (by assumption) (Nat.le_of_ble_eq_true rfl) ?_
          refine c_X4_rowAt I (fun i' w1 w2 w3 => ?_) (fun w => ?_)
          · have ei : i' = i := by rw [q1] at w1; exact (Option.some.inj w1).symm
            subst ei
            refine ok_astore_n dX4_steps_21 (st_5_3 rfl) (Nat.le_of_ble_eq_true rfl) rfl ?_
            refine ok_aload_n dX4_steps_22 rfl rfl ?_
            refine ok_iload_n dX4_steps_23 rfl ?_
            refine call_X4_rowAt dX4_steps_24 lk_X4_58 ⟨Nat.le_of_ble_eq_true rfl, Nat.le_of_ble_eq_true rfl, Nat.le_of_ble_eq_true rfl⟩ (by assumption) (Nat.le_of_ble_eq_true rfl) ?_
            refine c_X4_rowAt I (fun j' u1 u2 u3 => ?_) (fun u => ?_)
            · have ej : j' = j := by rw [p1] at u1; exact (Option.some.inj u1).symm
              subst ej
              rw [if_pos ⟨w3, u3⟩] at k
              obtain ⟨ol, rr⟩ := I.2.2.2.2.2.2.2.2.2.2.row q2 w3
              obtain ⟨ol', rr'⟩ := I.2.2.2.2.2.2.2.2.2.2.row p2 u3
              have er := rr.1
              have er' := rr'.1
              have hsum := ol.2.2
              have hsum' := ol'.2.2
              refine ok_astore dX4_steps_27 (st_5_4 rfl) (Nat.le_of_ble_eq_true rfl) rfl ?_
              refine ok_aload_n dX4_steps_29 rfl rfl ?_
              refine ok_ifnull (tgt := 38) dX4_steps_30 (by decide) rfl (fun c3 => ?_) (fun c3 => ?_)
              · cases c3
              refine ok_aload dX4_steps_33 rfl rfl ?_
              refine ok_ifnonnull (tgt := 44) dX4_steps_35 (by decide) rfl (fun c4 => ?_) (fun c4 => ?_)
              · refine ok_aload_n dX4_steps_44 rfl rfl ?_
                refine ok_get dX4_steps_45 fl_X4_90 (by assumption) (by rfl) ?_
                refine ok_aload dX4_steps_48 rfl rfl ?_
                refine ok_get dX4_steps_50 fl_X4_90 (by assumption) (by rfl) ?_
                refine okN_icmp_eq (tgt := 59) dX4_steps_53 (by decide) (by omega) (by omega) (fun c5 => ?_) (fun c5 => ?_)
                · rw [if_pos c5] at k
                  refine ok_aload_n dX4_steps_59 rfl rfl ?_
                  refine ok_aload_n dX4_steps_60 rfl rfl ?_
                  refine ok_get dX4_steps_61 fl_X4_90 (by assumption) (by rfl) ?_
                  refine call_X4_chartOf dX4_steps_64 lk_X4_96 ⟨Nat.le_of_ble_eq_true rfl, Nat.le_of_ble_eq_true rfl, Nat.le_of_ble_eq_true rfl⟩ (by assumption) (Nat.le_of_ble_eq_true rfl) ?_
                  refine c_X4_chartOf I (by omega) h64 (fun h1 qc f1 I1 ch => ?_)
                  obtain ⟨-, rr1⟩ := I1.2.2.2.2.2.2.2.2.2.2.row q2 w3
                  obtain ⟨-, rr1'⟩ := I1.2.2.2.2.2.2.2.2.2.2.row p2 u3
                  have er1 := rr1.1
                  have er1' := rr1'.1
                  have e01 := I1.1
                  have ls1 := I1.2.2.2.2.2.1
                  have els1 := ls1.1
                  have ec1 := ch.1
                  obtain ⟨hs1, hk1⟩ := nb_NN ol hr
                  obtain ⟨hs2, hk2⟩ := nb_NN ol' hr
                  rw [← c5] at hk2
                  refine ok_aload_n dX4_steps_67 rfl rfl ?_
                  refine ok_get dX4_steps_68 fl_X4_26 (by assumption) (by rfl) ?_
                  refine ok_aload_n dX4_steps_71 rfl rfl ?_
                  refine call_X1_numberOf dX4_steps_72 lk_X4_100 ⟨Nat.le_of_ble_eq_true rfl, Nat.le_of_ble_eq_true rfl, Nat.le_of_ble_eq_true rfl⟩ (by assumption) (Nat.le_of_ble_eq_true rfl) ?_
                  refine c_X1_numberOf ls1 rr1 ol ?_
                  dsimp only [m_push]
                  refine ok_aload_n dX4_steps_75 rfl rfl ?_
                  refine ok_get dX4_steps_76 fl_X4_26 (by assumption) (by rfl) ?_
                  refine ok_aload dX4_steps_79 rfl rfl ?_
                  refine call_X1_numberOf dX4_steps_81 lk_X4_100 ⟨Nat.le_of_ble_eq_true rfl, Nat.le_of_ble_eq_true rfl, Nat.le_of_ble_eq_true rfl⟩ (by assumption) (Nat.le_of_ble_eq_true rfl) ?_
                  refine c_X1_numberOf ls1 rr1' ol' ?_
                  dsimp only [m_push]
                  refine call_X0_stepsBetween dX4_steps_84 lk_X4_156 ⟨Nat.le_of_ble_eq_true rfl, Nat.le_of_ble_eq_true rfl, Nat.le_of_ble_eq_true rfl⟩ (by assumption) (Nat.le_of_ble_eq_true rfl) ?_
                  refine c_X0_stepsBetween ch hs1 hk1 hk2 ?_
                  refine ok_iret dX4_steps_87 rfl rfl ⟨Nat.le_of_ble_eq_true rfl, Nat.le_of_ble_eq_true rfl⟩ ?_
                  exact k h1 f1 I1
                · rw [if_neg c5] at k
                  refine ok_bipush (v := -9) dX4_steps_56 (by decide) ?_
                  refine ok_iret dX4_steps_58 rfl rfl ⟨Nat.le_of_ble_eq_true rfl, Nat.le_of_ble_eq_true rfl⟩ ?_
                  exact k h fX.rf I
              · cases c4
            · refine ok_astore dX4_steps_27 (st_5_4 rfl) (Nat.le_of_ble_eq_true rfl) rfl ?_
              exact bad (fun z => by have := u j p1; rw [z.2] at this; cases this) _ _ rfl rfl (Or.inr rfl)
          · refine ok_astore_n dX4_steps_21 (st_5_3 rfl) (Nat.le_of_ble_eq_true rfl) rfl ?_
            refine ok_aload_n dX4_steps_22 rfl rfl ?_
            refine ok_iload_n dX4_steps_23 rfl ?_
            refine call_X4_rowAt dX4_steps_24 lk_X4_58 ⟨Nat.le_of_ble_eq_true rfl, Nat.le_of_ble_eq_true rfl, Nat.le_of_ble_eq_true rfl⟩ (by assumption) (Nat.le_of_ble_eq_true rfl) ?_
            refine c_X4_rowAt I (fun j' u1 u2 u3 => ?_) (fun u => ?_)
            · refine ok_astore dX4_steps_27 (st_5_4 rfl) (Nat.le_of_ble_eq_true rfl) rfl ?_
              exact bad (fun z => by have := w i q1; rw [z.1] at this; cases this) _ _ rfl rfl (Or.inl rfl)
            · refine ok_astore dX4_steps_27 (st_5_4 rfl) (Nat.le_of_ble_eq_true rfl) rfl ?_
              exact bad (fun z => by have := w i q1; rw [z.1] at this; cases this) _ _ rfl rfl (Or.inl rfl)
        · exact absurd c2 (by decide)
      · rw [z] at k
        dsimp only at k
        refine okN_if_ne (tgt := 16) dX4_steps_11 (by decide) (by omega) (fun c2 => ?_) (fun c2 => ?_)
        · exact absurd c2 (by decide)
        · refine ok_iconst (v := -1) dX4_steps_14 (by decide) ?_
          refine ok_iret dX4_steps_15 rfl rfl ⟨Nat.le_of_ble_eq_true rfl, Nat.le_of_ble_eq_true rfl⟩ ?_
          exact k h fX.rf I
  · rw [z] at k
    dsimp only at k
    refine okN_if_eq (tgt := 14) dX4_steps_4 (by decide) (by omega) (fun c1 => ?_) (fun c1 => ?_)
    · refine ok_iconst (v := -1) dX4_steps_14 (by decide) ?_
      refine ok_iret dX4_steps_15 rfl rfl ⟨Nat.le_of_ble_eq_true rfl, Nat.le_of_ble_eq_true rfl⟩ ?_
      exact k h fX.rf I
    · exact absurd c1 (by decide)
theorem p_X4_copy {p i n to : Int32} (I : IX h S) (k : ∀ h', fX h h' → IX h' (sp_copy S p i n to).2 → Q (some (.int (sp_copy S p i n to).1)) h') : Ok g MX4_copy (m_J g MX4_copy Q) 0 [some (.ref 0), some (.int p), some (.int i), some (.int n), some (.int to), none, none] [] h 0 0 := by
  have e0 := I.1
  unfold sp_copy at k
  refine ok_iload_n dX4_copy_0 rfl ?_
  refine call_X4_isPlace dX4_copy_1 lk_X4_51 ⟨Nat.le_of_ble_eq_true rfl, Nat.le_of_ble_eq_true rfl, Nat.le_of_ble_eq_true rfl⟩ (Nat.le_of_ble_eq_true rfl) ?_
  refine c_X4_isPlace (fun a q1 q2 q3 => ?_) (fun z => ?_)
  · rw [q1] at k
    refine okN_if_eq (tgt := 15) dX4_copy_4 (by decide) (by omega) (fun c1 => ?_) (fun c1 => ?_)
    · exact absurd c1 (by decide)
    · refine ok_iload dX4_copy_7 rfl ?_
      refine call_X4_isPlace dX4_copy_9 lk_X4_51 ⟨Nat.le_of_ble_eq_true rfl, Nat.le_of_ble_eq_true rfl, Nat.le_of_ble_eq_true rfl⟩ (Nat.le_of_ble_eq_true rfl) ?_
      refine c_X4_isPlace (fun b p1 p2 p3 => ?_) (fun z => ?_)
      · rw [p1] at k
        dsimp only at k
        refine okN_if_ne (tgt := 17) dX4_copy_12 (by decide) (by omega) (fun c2 => ?_) (fun c2 => ?_)
        · refine ok_iload_n dX4_copy_17 rfl ?_
          refine ok_if_ge (tgt := 27) dX4_copy_18 (by decide) (fun c3 => ?_) (fun c3 => ?_)
          · rw [if_neg (by rw [tI_0]; rw [Int32.le_iff_toInt_le] at c3; have : (0 : Int32).toInt = 0 := rfl; omega)] at k
            refine ok_aload_n dX4_copy_27 rfl rfl ?_
            refine ok_iload_n dX4_copy_28 rfl ?_
            have bad : ¬ (S.1 a = true ∧ S.1 b = true) → ∀ (v3 v4 : Value), m_isA v3 = true → m_isA v4 = true → (v3 = .null ∨ v4 = .null) → Ok g MX4_copy (m_J g MX4_copy Q) 42 [some (.ref 0), some (.int p), some (.int i), some (.int n), some (.int to), some v3, some v4] [] h 0 0 := by
              intro hn v3 v4 a3 a4 hv
              rw [if_neg hn] at k
              have fin : Ok g MX4_copy (m_J g MX4_copy Q) 52 [some (.ref 0), some (.int p), some (.int i), some (.int n), some (.int to), some v3, some v4] [] h 0 0 := by
                refine ok_aload_n dX4_copy_52 rfl rfl ?_
                refine ok_iconst (v := nI 1) dX4_copy_53 (by decide) ?_
                refine call_X4_found dX4_copy_54 lk_X4_62 ⟨Nat.le_of_ble_eq_true rfl, Nat.le_of_ble_eq_true rfl, Nat.le_of_ble_eq_true rfl⟩ (by assumption) (Nat.le_of_ble_eq_true rfl) ?_
                refine c_X4_found I (by decide) (fun h' x' I' => ?_)
                refine ok_iret dX4_copy_57 rfl rfl ⟨Nat.le_of_ble_eq_true rfl, Nat.le_of_ble_eq_true rfl⟩ ?_
                exact k h' (x'.w.f (by decide)) I'
              refine ok_aload dX4_copy_42 rfl a3 ?_
              refine ok_ifnull (tgt := 52) dX4_copy_44 (by decide) a3 (fun _ => fin) (fun c3 => ?_)
              refine ok_aload dX4_copy_47 rfl a4 ?_
              refine ok_ifnonnull (tgt := 58) dX4_copy_49 (by decide) a4 (fun c4 => ?_) (fun _ => fin)
              rcases hv with e | e
              · exact absurd e c3
              · exact absurd e c4
            refine call_X4_rowAt dX4_copy_29 lk_X4_58 ⟨Nat.le_of_ble_eq_true rfl, Nat.le_of_ble_eq_true rfl, Nat.le_of_ble_eq_true rfl⟩ (by assumption) (Nat.le_of_ble_eq_true rfl) ?_
            refine c_X4_rowAt I (fun i' w1 w2 w3 => ?_) (fun w => ?_)
            · have ei : i' = a := by rw [q1] at w1; exact (Option.some.inj w1).symm
              subst ei
              refine ok_astore dX4_copy_32 (st_7_5 rfl) (Nat.le_of_ble_eq_true rfl) rfl ?_
              refine ok_aload_n dX4_copy_34 rfl rfl ?_
              refine ok_iload dX4_copy_35 rfl ?_
              refine call_X4_rowAt dX4_copy_37 lk_X4_58 ⟨Nat.le_of_ble_eq_true rfl, Nat.le_of_ble_eq_true rfl, Nat.le_of_ble_eq_true rfl⟩ (by assumption) (Nat.le_of_ble_eq_true rfl) ?_
              refine c_X4_rowAt I (fun j' u1 u2 u3 => ?_) (fun u => ?_)
              · have ej : j' = b := by rw [p1] at u1; exact (Option.some.inj u1).symm
                subst ej
                rw [if_pos ⟨w3, u3⟩] at k
                obtain ⟨ol, rr⟩ := I.2.2.2.2.2.2.2.2.2.2.row q2 w3
                obtain ⟨ol', rr'⟩ := I.2.2.2.2.2.2.2.2.2.2.row p2 u3
                obtain ⟨lsp, osp, ⟨es, Fs, eFs, hFs⟩⟩ := I.2.2.2.2.2.2.2.2.1
                have er := rr.1
                have er' := rr'.1
                have hsum := ol.2.2
                have hsum' := ol'.2.2
                have hlen := ol.len
                refine ok_astore dX4_copy_40 (st_7_6 rfl) (Nat.le_of_ble_eq_true rfl) rfl ?_
                refine ok_aload dX4_copy_42 rfl rfl ?_
                refine ok_ifnull (tgt := 52) dX4_copy_44 (by decide) rfl (fun c4 => ?_) (fun c4 => ?_)
                · cases c4
                refine ok_aload dX4_copy_47 rfl rfl ?_
                refine ok_ifnonnull (tgt := 58) dX4_copy_49 (by decide) rfl (fun c5 => ?_) (fun c5 => ?_)
                · have beyond : (∀ h', fX h h' → IX h' (fd S 2).2 → Q (some (.int (fd S 2).1)) h') → Ok g MX4_copy (m_J g MX4_copy Q) 82 [some (.ref 0), some (.int p), some (.int i), some (.int n), some (.int to), some (.ref (22 + 2 * i')), some (.ref (22 + 2 * j'))] [] h 0 0 := by
                    intro kk
                    refine ok_aload_n dX4_copy_82 rfl rfl ?_
                    refine ok_iconst (v := nI 2) dX4_copy_83 (by decide) ?_
                    refine call_X4_found dX4_copy_84 lk_X4_62 ⟨Nat.le_of_ble_eq_true rfl, Nat.le_of_ble_eq_true rfl, Nat.le_of_ble_eq_true rfl⟩ (by assumption) (Nat.le_of_ble_eq_true rfl) ?_
                    refine c_X4_found I (by decide) (fun h' x' I' => ?_)
                    refine ok_iret dX4_copy_87 rfl rfl ⟨Nat.le_of_ble_eq_true rfl, Nat.le_of_ble_eq_true rfl⟩ ?_
                    exact kk h' (x'.w.f (by decide)) I'
                  rcases pl_cases ((S.2.1 i').length + 1) i (by omega) with e | ⟨x, e, hx5, rfl⟩
                  · have pn := pl_not e
                    refine ok_iload_n dX4_copy_58 rfl ?_
                    refine ok_if_lt (tgt := 82) dX4_copy_59 (by decide) (fun c6 => ?_) (fun c6 => ?_)
                    · exact beyond (by rw [e] at k; exact k)
                    · refine ok_iload_n dX4_copy_62 rfl ?_
                      refine ok_aload dX4_copy_63 rfl rfl ?_
                      refine ok_get dX4_copy_65 fl_X4_73 (by assumption) (by rfl) ?_
                      refine ok_icmp_gt (tgt := 82) dX4_copy_68 (by decide) (fun c7 => ?_) (fun c7 => ?_)
                      · exact beyond (by rw [e] at k; exact k)
                      · rw [tI_0] at c6
                        rw [tI_gt (by omega)] at c7
                        omega
                  · rw [e] at k
                    refine ok_iload_n dX4_copy_58 rfl ?_
                    refine okN_if_lt (tgt := 82) dX4_copy_59 (by decide) (by omega) ?_
                    refine ok_iload_n dX4_copy_62 rfl ?_
                    refine ok_aload dX4_copy_63 rfl rfl ?_
                    refine ok_get dX4_copy_65 fl_X4_73 (by assumption) (by rfl) ?_
                    refine okN_icmp_gt (tgt := 82) dX4_copy_68 (by decide) (by omega) (by omega) (fun c7 => ?_) (fun c7 => ?_)
                    · exact absurd c7 (by omega)
                    · refine ok_iload_n dX4_copy_71 rfl ?_
                      refine ok_aload dX4_copy_72 rfl rfl ?_
                      refine ok_get dX4_copy_74 fl_X4_73 (by assumption) (by rfl) ?_
                      refine ok_iload_n dX4_copy_77 rfl ?_
                      first | refine okN_isub dX4_copy_78 (by omega) ?_ | refine ok_isub dX4_copy_78 ?_
                      rcases pl_cases 19 n (by decide) with e2 | ⟨m, e2, hm, rfl⟩
                      · have pn := pl_not e2
                        refine ok_icmp_le (tgt := 88) dX4_copy_79 (by decide) (fun c8 => ?_) (fun c8 => ?_)
                        · rw [tI_le (by omega)] at c8
                          rw [Int32.le_iff_toInt_le] at c3
                          have z0 : (0 : Int32).toInt = 0 := rfl
                          omega
                        · exact beyond (by rw [e2] at k; exact k)
                      · rw [e2] at k
                        dsimp only at k
                        refine okN_icmp_le (tgt := 88) dX4_copy_79 (by decide) (by omega) (by omega) (fun c8 => ?_) (fun c8 => ?_)
                        · rw [if_pos (by omega)] at k
                          have tl2 := tsum_le (S.2.1 i') (x + m)
                          have sp1 : ∀ y, y ≤ m → okl (ppN (S.2.1 i') x [] y) ∧ (ppN (S.2.1 i') x [] y).sum = 0 + (tsum (S.2.1 i') (x + y) - tsum (S.2.1 i') x) := fun y hy => by
                            have t3 := tsum_le (S.2.1 i') (x + y)
                            have := ppN_inv ol okl_nil x y (by omega) (by rw [List.sum_nil]; omega)
                            rw [List.sum_nil] at this
                            exact this
                          obtain ⟨os, ss⟩ := sp1 m (Nat.le_refl _)
                          refine ok_aload_n dX4_copy_88 rfl rfl ?_
                          refine ok_get dX4_copy_89 fl_X4_44 (by assumption) (by rfl) ?_
                          refine call_X3_clear dX4_copy_92 lk_X4_55 ⟨Nat.le_of_ble_eq_true rfl, Nat.le_of_ble_eq_true rfl, Nat.le_of_ble_eq_true rfl⟩ (by assumption) (Nat.le_of_ble_eq_true rfl) ?_
                          refine c_X3_clear es (fun h1 x1 es1 => ?_)
                          have e01 := x1.at (by decide) e0
                          have rr1 := rr.at x1 (by simp <;> omega) (by simp <;> omega)
                          have rr1' := rr'.at x1 (by simp <;> omega) (by simp <;> omega)
                          have rs1 : Rw h1 18 19 [] := ⟨es1, Fs, x1.at (by decide) eFs, fun i hi => by simp at hi⟩
                          have er1 := rr1.1
                          refine ok_aload_n dX4_copy_95 rfl rfl ?_
                          refine ok_get dX4_copy_96 fl_X4_44 (by assumption) (by rfl) ?_
                          refine ok_aload dX4_copy_99 rfl rfl ?_
                          refine ok_iload_n dX4_copy_101 rfl ?_
                          refine ok_iload_n dX4_copy_102 rfl ?_
                          refine call_X3_putPart dX4_copy_103 lk_X4_86 ⟨Nat.le_of_ble_eq_true rfl, Nat.le_of_ble_eq_true rfl, Nat.le_of_ble_eq_true rfl⟩ (by assumption) (Nat.le_of_ble_eq_true rfl) ?_
                          refine c_X3_putPart rs1 rr1 (by decide) (by omega) (by omega) (by omega) (by omega) ol (by omega) (fun y hy => (sp1 y hy).1) (fun h2 x2 rs2 => ?_)
                          have e02 := x2.at (by decide) e01
                          have rr2' := rr1'.at x2 (by simp <;> omega) (by simp <;> omega)
                          have er2' := rr2'.1
                          have es2 := rs2.1
                          have hx02 : hx [18, 19] h h2 := x1.tr x2 (by simp) (by simp)
                          have I2 : IX h2 S := I.setSp hx02 ⟨_, os, rs2⟩
                          refine ok_aload dX4_copy_106 rfl rfl ?_
                          refine ok_aload_n dX4_copy_108 rfl rfl ?_
                          refine ok_get dX4_copy_109 fl_X4_44 (by assumption) (by rfl) ?_
                          refine ok_get dX4_copy_112 fl_X4_90 (by assumption) (by rfl) ?_
                          refine call_X3_hasRoomFor dX4_copy_115 lk_X4_66 ⟨Nat.le_of_ble_eq_true rfl, Nat.le_of_ble_eq_true rfl, Nat.le_of_ble_eq_true rfl⟩ (by assumption) (Nat.le_of_ble_eq_true rfl) ?_
                          refine c_X3_hasRoomFor er2' hsum' (by have := os.2.2; omega) (fun c9 => ?_) (fun c9 => ?_)
                          · rw [ss] at c9
                            rw [if_pos (by omega)] at k
                            refine okN_if_ne (tgt := 124) dX4_copy_118 (by decide) (by omega) (fun c10 => ?_) (fun c10 => ?_)
                            · have ln := ppN_len (S.2.1 i') x [] m
                              rw [List.length_nil, Nat.zero_add] at ln
                              refine ok_aload dX4_copy_124 rfl rfl ?_
                              refine ok_aload_n dX4_copy_126 rfl rfl ?_
                              refine ok_get dX4_copy_127 fl_X4_44 (by assumption) (by rfl) ?_
                              refine ok_iconst (v := nI 0) dX4_copy_130 (by decide) ?_
                              refine ok_aload_n dX4_copy_131 rfl rfl ?_
                              refine ok_get dX4_copy_132 fl_X4_44 (by assumption) (by rfl) ?_
                              refine ok_get dX4_copy_135 fl_X4_73 (by assumption) (by rfl) ?_
                              rw [ln]
                              refine call_X3_putPart dX4_copy_138 lk_X4_86 ⟨Nat.le_of_ble_eq_true rfl, Nat.le_of_ble_eq_true rfl, Nat.le_of_ble_eq_true rfl⟩ (by assumption) (Nat.le_of_ble_eq_true rfl) ?_
                              have eqp : ∀ y, y ≤ m → ppN (ppN (S.2.1 i') x [] m) 0 (S.2.1 j') y = ppN (S.2.1 i') x (S.2.1 j') y := fun y hy => ppN_cong y (fun z hz => by rw [ppN_slice ol x m (by omega), Nat.zero_add, take_getD _ _ _ (by omega), drop_getD])
                              have okt : ∀ y, y ≤ m → okl (ppN (S.2.1 i') x (S.2.1 j') y) := fun y hy => by
                                have t3 : tsum (S.2.1 i') (x + y) - tsum (S.2.1 i') x ≤ tsum (S.2.1 i') (x + m) - tsum (S.2.1 i') x := by
                                  have mono : ∀ d y, y + d = m → tsum (S.2.1 i') (x + y) ≤ tsum (S.2.1 i') (x + m) := by
                                    intro d
                                    induction d with
                                    | zero => intro y hy; rw [show y = m by omega]; exact Nat.le_refl _
                                    | succ d ih => intro y hy; have := ih (y + 1) (by omega); have := tsum_succ (S.2.1 i') (x + y) (by omega); rw [show x + (y + 1) = x + y + 1 by omega] at *; omega
                                  have := mono (m - y) y (by omega)
                                  omega
                                exact (ppN_inv ol ol' x y (by omega) (by omega)).1
                              refine c_X3_putPart rr2' rs2 (by omega) (by omega) (by omega) (by omega) (by omega) os (by omega) (fun y hy => by rw [eqp y hy]; exact okt y hy) (fun h3 x3 r3 => ?_)
                              rw [eqp m (Nat.le_refl _)] at r3
                              have er3 := r3.1
                              rw [ppN_len] at er3
                              refine ok_aload dX4_copy_141 rfl rfl ?_
                              refine ok_get dX4_copy_143 fl_X4_73 (by assumption) (by rfl) ?_
                              refine ok_iret dX4_copy_146 rfl rfl ⟨Nat.le_of_ble_eq_true rfl, Nat.le_of_ble_eq_true rfl⟩ ?_
                              exact k h3 ((hx02.tr x3 (C := [18, 19, 22 + 2 * j', 23 + 2 * j']) (by simp) (by simp)).w.f (by simp <;> omega)) (I2.setP p2 u3 x3 (okt m (Nat.le_refl _)) r3)
                            · exact absurd c10 (by decide)
                          · rw [ss] at c9
                            rw [if_neg (by omega)] at k
                            refine okN_if_ne (tgt := 124) dX4_copy_118 (by decide) (by omega) (fun c10 => ?_) (fun c10 => ?_)
                            · exact absurd c10 (by decide)
                            · refine ok_bipush (v := -2) dX4_copy_121 (by decide) ?_
                              refine ok_iret dX4_copy_123 rfl rfl ⟨Nat.le_of_ble_eq_true rfl, Nat.le_of_ble_eq_true rfl⟩ ?_
                              exact k h2 (hx02.w.f (by decide)) I2
                        · exact beyond (by rw [if_neg (by omega)] at k; exact k)
                · cases c5
              · refine ok_astore dX4_copy_40 (st_7_6 rfl) (Nat.le_of_ble_eq_true rfl) rfl ?_
                exact bad (fun z => by have := u b p1; rw [z.2] at this; cases this) _ _ rfl rfl (Or.inr rfl)
            · refine ok_astore dX4_copy_32 (st_7_5 rfl) (Nat.le_of_ble_eq_true rfl) rfl ?_
              refine ok_aload_n dX4_copy_34 rfl rfl ?_
              refine ok_iload dX4_copy_35 rfl ?_
              refine call_X4_rowAt dX4_copy_37 lk_X4_58 ⟨Nat.le_of_ble_eq_true rfl, Nat.le_of_ble_eq_true rfl, Nat.le_of_ble_eq_true rfl⟩ (by assumption) (Nat.le_of_ble_eq_true rfl) ?_
              refine c_X4_rowAt I (fun j' u1 u2 u3 => ?_) (fun u => ?_)
              · refine ok_astore dX4_copy_40 (st_7_6 rfl) (Nat.le_of_ble_eq_true rfl) rfl ?_
                exact bad (fun z => by have := w a q1; rw [z.1] at this; cases this) _ _ rfl rfl (Or.inl rfl)
              · refine ok_astore dX4_copy_40 (st_7_6 rfl) (Nat.le_of_ble_eq_true rfl) rfl ?_
                exact bad (fun z => by have := w a q1; rw [z.1] at this; cases this) _ _ rfl rfl (Or.inl rfl)
          · rw [if_pos (by rw [tI_0]; rw [Int32.le_iff_toInt_le] at c3; have : (0 : Int32).toInt = 0 := rfl; omega)] at k
            refine ok_aload_n dX4_copy_21 rfl rfl ?_
            refine ok_iconst (v := nI 5) dX4_copy_22 (by decide) ?_
            refine call_X4_found dX4_copy_23 lk_X4_62 ⟨Nat.le_of_ble_eq_true rfl, Nat.le_of_ble_eq_true rfl, Nat.le_of_ble_eq_true rfl⟩ (by assumption) (Nat.le_of_ble_eq_true rfl) ?_
            refine c_X4_found I (by decide) (fun h' x' I' => ?_)
            refine ok_iret dX4_copy_26 rfl rfl ⟨Nat.le_of_ble_eq_true rfl, Nat.le_of_ble_eq_true rfl⟩ ?_
            exact k h' (x'.w.f (by decide)) I'
        · exact absurd c2 (by decide)
      · rw [z] at k
        dsimp only at k
        refine okN_if_ne (tgt := 17) dX4_copy_12 (by decide) (by omega) (fun c2 => ?_) (fun c2 => ?_)
        · exact absurd c2 (by decide)
        · refine ok_iconst (v := -1) dX4_copy_15 (by decide) ?_
          refine ok_iret dX4_copy_16 rfl rfl ⟨Nat.le_of_ble_eq_true rfl, Nat.le_of_ble_eq_true rfl⟩ ?_
          exact k h fX.rf I
  · rw [z] at k
    dsimp only at k
    refine okN_if_eq (tgt := 15) dX4_copy_4 (by decide) (by omega) (fun c1 => ?_) (fun c1 => ?_)
    · refine ok_iconst (v := -1) dX4_copy_15 (by decide) ?_
      refine ok_iret dX4_copy_16 rfl rfl ⟨Nat.le_of_ble_eq_true rfl, Nat.le_of_ble_eq_true rfl⟩ ?_
      exact k h fX.rf I
    · exact absurd c1 (by decide)
end PUB5
