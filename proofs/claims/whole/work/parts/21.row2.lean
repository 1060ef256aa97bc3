/-! ===== a row's methods that put and take ===== -/
section ROW2
variable {g : mG} {h : mH} {Q : Option Value → mH → Prop} {a b n c : Nat} {F : Nat → Nat} {l : List Nat}
/-- a heap without cards is none -/
theorem c_X3_put0 (k : Q none h) : Ok g MX3_put (m_J g MX3_put Q) 0 [some (.ref a), some (.int (nI 0)), none] [] h 0 0 := by
  refine ok_iload_n dX3_put_0 rfl ?_
  refine ok_iconst (v := nI 1) dX3_put_1 (by decide) ?_
  refine okN_icmp_lt (tgt := 22) dX3_put_2 (by decide) (by omega) (by omega) (fun c1 => ?_) (fun c1 => ?_)
  · refine ok_vret dX3_put_22 rfl ⟨Nat.le_of_ble_eq_true rfl, Nat.le_of_ble_eq_true rfl⟩ ?_
    exact k
  · exact absurd c1 (by omega)
theorem l_X3_put {m : Nat} (hab : a ≠ b) (hl : okl l) (hm : 1 ≤ m) (hs : m + l.sum ≤ 18) (k : ∀ h', hx [a, b] h h' → Rw h' a b (ins m l) → Q none h') :
    ∀ (i : Nat) (h1 : mH) (G : Nat → Nat), hx [a, b] h h1 → hc h1 a = some (rowc b l.length l.sum) → hc h1 b = some (aI 18 G) → i ≤ l.length → (∀ j, j < i → G j = l.getD j 0) → (∀ j, i ≤ j → j < l.length → G (j + 1) = l.getD j 0) → (∀ j, i ≤ j → j < l.length → l.getD j 0 < m) →
    Ok g MX3_put (m_J g MX3_put Q) 28 [some (.ref a), some (.int (nI m)), some (.int (nI i))] [] h1 0 0 := by
  have hlen := hl.len
  have hlen2 := len_sum l hl.2.1
  have fin : ∀ (i : Nat) (h1 : mH) (G : Nat → Nat), hx [a, b] h h1 → hc h1 a = some (rowc b l.length l.sum) → hc h1 b = some (aI 18 G) → i ≤ l.length → (∀ j, j < i → G j = l.getD j 0) → (∀ j, i ≤ j → j < l.length → G (j + 1) = l.getD j 0) → (∀ j, i ≤ j → j < l.length → l.getD j 0 < m) → (∀ q, q < i → m ≤ l.getD q 0) →
      Ok g MX3_put (m_J g MX3_put Q) 64 [some (.ref a), some (.int (nI m)), some (.int (nI i))] [] h1 0 0 := by
    intro i h1 G x1 ea eb hi g1 g2 g3 g4
    refine ok_aload_n dX3_put_64 rfl rfl ?_
    refine ok_get dX3_put_65 fl_X3_9 (by assumption) (by rfl) ?_
    refine ok_iload_n dX3_put_68 rfl ?_
    refine ok_iload_n dX3_put_69 rfl ?_
    first | refine okN_iast dX3_put_70 (by assumption) (by omega) (by decide) (fun h2 hx2 he2 => ?_) | refine okN_kast dX3_put_70 (by assumption) (by omega) (by decide) (fun h2 hx2 he2 => ?_)
    have ea2 := hx2.at (by simp [hab]) ea
    refine ok_aload_n dX3_put_71 rfl rfl ?_
    refine ok_dup dX3_put_72 rfl ?_
    refine ok_get dX3_put_73 fl_X3_15 (by assumption) (by rfl) ?_
    refine ok_iconst (v := nI 1) dX3_put_76 (by decide) ?_
    first | refine okN_iadd dX3_put_77 ?_ | refine ok_iadd dX3_put_77 ?_
    refine okR_put dX3_put_78 fl_X3_15 (by assumption) (Nat.le_of_ble_eq_true rfl) (fun _ => ⟨rfl, rfl⟩) set_3_1 (fun h3 hx3 he3 => ?_)
    have eb3 := hx3.at (by simp [Ne.symm hab]) he2
    refine ok_aload_n dX3_put_81 rfl rfl ?_
    refine ok_dup dX3_put_82 rfl ?_
    refine ok_get dX3_put_83 fl_X3_19 (by assumption) (by rfl) ?_
    refine ok_iload_n dX3_put_86 rfl ?_
    first | refine okN_iadd dX3_put_87 ?_ | refine ok_iadd dX3_put_87 ?_
    refine okR_put dX3_put_88 fl_X3_19 (by assumption) (Nat.le_of_ble_eq_true rfl) (fun _ => ⟨rfl, rfl⟩) set_3_2 (fun h4 hx4 he4 => ?_)
    refine ok_vret dX3_put_91 rfl ⟨Nat.le_of_ble_eq_true rfl, Nat.le_of_ble_eq_true rfl⟩ ?_
    have eb4 := hx4.at (by simp [Ne.symm hab]) eb3
    refine k h4 (((x1.tr hx2 (C := [a, b]) (by simp) (by simp)).tr hx3 (C := [a, b]) (by simp) (by simp)).tr hx4 (C := [a, b]) (by simp) (by simp)) ⟨?_, _, eb4, ?_⟩
    · rw [ins_len, ins_sum, Nat.add_comm m]
      exact he4
    · intro j hj
      rw [ins_len] at hj
      rw [ins_get m l i j hi g4 g3 hj]
      by_cases d : j < i
      · rw [if_pos d, up_ne (by omega), g1 j d]
      · rw [if_neg d]
        by_cases e : j = i
        · rw [if_pos e, e, up_eq]
        · rw [if_neg e, up_ne e]
          obtain ⟨j', rfl⟩ : ∃ j', j = j' + 1 := ⟨j - 1, by omega⟩
          exact g2 j' (by omega) (by omega)
  intro i
  induction i with
  | zero =>
    intro h1 G x1 ea eb hi g1 g2 g3
    refine ok_iload_n dX3_put_28 rfl ?_
    refine okN_if_le (tgt := 64) dX3_put_29 (by decide) (by omega) (fun c1 => ?_) (fun c1 => ?_)
    · exact fin 0 h1 G x1 ea eb hi g1 g2 g3 (fun q hq => by omega)
    · exact absurd c1 (by omega)
  | succ i ih =>
    intro h1 G x1 ea eb hi g1 g2 g3
    have gi := g1 i (by omega)
    have gb := gd_sum l i
    refine ok_iload_n dX3_put_28 rfl ?_
    refine okN_if_le (tgt := 64) dX3_put_29 (by decide) (by omega) (fun c1 => ?_) (fun c1 => ?_)
    · exact absurd c1 (by omega)
    · refine ok_aload_n dX3_put_32 rfl rfl ?_
      refine ok_get dX3_put_33 fl_X3_9 (by assumption) (by rfl) ?_
      refine ok_iload_n dX3_put_36 rfl ?_
      refine ok_iconst (v := nI 1) dX3_put_37 (by decide) ?_
      first | refine okN_isub dX3_put_38 (by omega) ?_ | refine ok_isub dX3_put_38 ?_
      first | refine okN_iald dX3_put_39 (by assumption) (by omega) (by decide) ?_ | refine okN_kald dX3_put_39 (by assumption) (by omega) (by decide) ?_
      refine ok_iload_n dX3_put_40 rfl ?_
      rw [show i + 1 - 1 = i by omega, gi]
      refine okN_icmp_ge (tgt := 64) dX3_put_41 (by decide) (by omega) (by omega) (fun c2 => ?_) (fun c2 => ?_)
      · refine fin (i + 1) h1 G x1 ea eb hi g1 g2 g3 (fun q hq => ?_)
        have := srt_get l q i hl.1 (by omega) (by omega)
        omega
      · refine ok_aload_n dX3_put_44 rfl rfl ?_
        refine ok_get dX3_put_45 fl_X3_9 (by assumption) (by rfl) ?_
        refine ok_iload_n dX3_put_48 rfl ?_
        refine ok_aload_n dX3_put_49 rfl rfl ?_
        refine ok_get dX3_put_50 fl_X3_9 (by assumption) (by rfl) ?_
        refine ok_iload_n dX3_put_53 rfl ?_
        refine ok_iconst (v := nI 1) dX3_put_54 (by decide) ?_
        first | refine okN_isub dX3_put_55 (by omega) ?_ | refine ok_isub dX3_put_55 ?_
        first | refine okN_iald dX3_put_56 (by assumption) (by omega) (by decide) ?_ | refine okN_kald dX3_put_56 (by assumption) (by omega) (by decide) ?_
        rw [show i + 1 - 1 = i by omega]
        first | refine okN_iast dX3_put_57 (by assumption) (by omega) (by decide) (fun h2 hx2 he2 => ?_) | refine okN_kast dX3_put_57 (by assumption) (by omega) (by decide) (fun h2 hx2 he2 => ?_)
        refine okN_dec dX3_put_58 rfl (by omega) (st_3_2 rfl) (Nat.le_of_ble_eq_true rfl) ?_
        refine ok_goto (tgt := 28) dX3_put_61 (by decide) ?_
        refine ih h2 _ (x1.tr hx2 (by simp) (by simp)) (hx2.at (by simp [hab]) ea) he2 (by omega) (fun j hj => ?_) (fun j h3 h4 => ?_) (fun j h3 h4 => ?_)
        · rw [up_ne (by omega), g1 j (by omega)]
        · by_cases e : j = i
          · subst e; rw [up_eq, gi]
          · rw [up_ne (by omega)]
            exact g2 j (by omega) h4
        · by_cases e : j = i
          · subst e; exact c2
          · exact g3 j (by omega) h4
theorem c_X3_put {m : Nat} (r : Rw h a b l) (hab : a ≠ b) (hl : okl l) (hm : 1 ≤ m) (hs : m + l.sum ≤ 18) (k : ∀ h', hx [a, b] h h' → Rw h' a b (ins m l) → Q none h') : Ok g MX3_put (m_J g MX3_put Q) 0 [some (.ref a), some (.int (nI m)), none] [] h 0 0 := by
  obtain ⟨ea, F, eb, hF⟩ := r
  have hlen := len_sum l hl.2.1
  refine ok_iload_n dX3_put_0 rfl ?_
  refine ok_iconst (v := nI 1) dX3_put_1 (by decide) ?_
  refine okN_icmp_lt (tgt := 22) dX3_put_2 (by decide) (by omega) (by omega) (fun c1 => ?_) (fun c1 => ?_)
  · exact absurd c1 (by omega)
  · refine ok_aload_n dX3_put_5 rfl rfl ?_
    refine ok_iload_n dX3_put_6 rfl ?_
    refine call_X3_hasRoomFor dX3_put_7 lk_X3_22 ⟨Nat.le_of_ble_eq_true rfl, Nat.le_of_ble_eq_true rfl, Nat.le_of_ble_eq_true rfl⟩ (by assumption) (Nat.le_of_ble_eq_true rfl) ?_
    refine c_X3_hasRoomFor ea (by omega) (by omega) (fun c2 => ?_) (fun c2 => absurd c2 (by omega))
    refine okN_if_eq (tgt := 22) dX3_put_10 (by decide) (by omega) (fun c3 => ?_) (fun c3 => ?_)
    · exact absurd c3 (by decide)
    · refine ok_aload_n dX3_put_13 rfl rfl ?_
      refine ok_get dX3_put_14 fl_X3_15 (by assumption) (by rfl) ?_
      refine ok_bipush (v := nI 18) dX3_put_17 (by decide) ?_
      refine okN_icmp_lt (tgt := 23) dX3_put_19 (by decide) (by omega) (by omega) (fun c4 => ?_) (fun c4 => ?_)
      · refine ok_aload_n dX3_put_23 rfl rfl ?_
        refine ok_get dX3_put_24 fl_X3_15 (by assumption) (by rfl) ?_
        refine ok_istore_n dX3_put_27 (st_3_2 rfl) (Nat.le_of_ble_eq_true rfl) ?_
        exact l_X3_put hab hl hm hs k l.length h F hx.rf ea eb (Nat.le_refl _) hF (fun j h1 h2 => absurd h1 (by omega)) (fun j h1 h2 => absurd h1 (by omega))
      · exact absurd c4 (by omega)
end ROW2
