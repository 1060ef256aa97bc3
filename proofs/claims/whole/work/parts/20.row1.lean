/-! ===== a place within, a row's cells ===== -/
def pl (n : Nat) (i : Int32) : Option Nat := if 0 ≤ i.toInt ∧ i.toInt < n then some i.toInt.toNat else none
theorem pl_lt {n : Nat} {i : Int32} (c : i < 0) : pl n i = none := by
  have : i.toInt < 0 := by simpa [Int32.lt_iff_toInt_lt] using c
  unfold pl
  rw [if_neg (by omega)]
theorem pl_ge {n : Nat} {i : Int32} (hn : n < 2 ^ 31) (c : nI n ≤ i) : pl n i = none := by
  have : (n : Int) ≤ i.toInt := by
    rw [Int32.le_iff_toInt_le, nI_toInt hn] at c
    exact c
  unfold pl
  rw [if_neg (by omega)]
theorem pl_nI {n j : Nat} (hn : n < 2 ^ 31) (h : j < n) : pl n (nI j) = some j := by
  unfold pl
  rw [nI_toInt (Nat.lt_trans h hn), if_pos (by omega)]
  simp
theorem pl_in {n : Nat} {i : Int32} (hn : n < 2 ^ 31) (c : ¬ i < 0) (d : ¬ nI n ≤ i) : ∃ j, pl n i = some j ∧ j < n ∧ i = nI j := by
  rcases pk_ix i hn with e | e | ⟨j, e1, e2⟩
  · exact absurd e c
  · exact absurd e d
  · exact ⟨j, by rw [e2]; exact pl_nI hn e1, e1, e2⟩
theorem pl_some {n j : Nat} {i : Int32} (hn : n < 2 ^ 31) (h : pl n i = some j) : j < n ∧ i = nI j := by
  unfold pl at h
  split at h
  · rename_i c
    have e := Option.some.inj h
    refine ⟨by omega, ?_⟩
    apply Int32.toInt_inj.mp
    rw [nI_toInt (by omega)]
    omega
  · cases h
abbrev rowc (b n c : Nat) : mE := .inr (3, [.ref b, .int (nI n), .int (nI c)])
section ROW1
variable {g : mG} {h : mH} {Q : Option Value → mH → Prop} {a b n c : Nat} {F : Nat → Nat}
theorem c_X4_isPlace {p : Int32} (k1 : ∀ j, pl 12 p = some j → j < 12 → p = nI j → Q (some (.int (nI 1))) h) (k0 : pl 12 p = none → Q (some (.int (nI 0))) h) : Ok g MX4_isPlace (m_J g MX4_isPlace Q) 0 [some (.int p)] [] h 0 0 := by
  refine ok_iload_n dX4_isPlace_0 rfl ?_
  refine ok_if_lt (tgt := 14) dX4_isPlace_1 (by decide) (fun c1 => ?_) (fun c1 => ?_)
  · refine ok_iconst (v := nI 0) dX4_isPlace_14 (by decide) ?_
    refine ok_iret dX4_isPlace_15 rfl rfl ⟨Nat.le_of_ble_eq_true rfl, Nat.le_of_ble_eq_true rfl⟩ ?_
    exact k0 (pl_lt c1)
  · refine ok_iload_n dX4_isPlace_4 rfl ?_
    refine ok_bipush (v := nI 12) dX4_isPlace_5 (by decide) ?_
    refine ok_icmp_ge (tgt := 14) dX4_isPlace_7 (by decide) (fun c2 => ?_) (fun c2 => ?_)
    · refine ok_iconst (v := nI 0) dX4_isPlace_14 (by decide) ?_
      refine ok_iret dX4_isPlace_15 rfl rfl ⟨Nat.le_of_ble_eq_true rfl, Nat.le_of_ble_eq_true rfl⟩ ?_
      exact k0 (pl_ge (by decide) c2)
    · refine ok_iconst (v := nI 1) dX4_isPlace_10 (by decide) ?_
      refine ok_goto (tgt := 15) dX4_isPlace_11 (by decide) ?_
      refine ok_iret dX4_isPlace_15 rfl rfl ⟨Nat.le_of_ble_eq_true rfl, Nat.le_of_ble_eq_true rfl⟩ ?_
      obtain ⟨j, e1, e2, e3⟩ := pl_in (n := 12) (by decide) c1 c2
      exact k1 j e1 e2 e3
theorem c_X4_isCards {p : Int32} (k1 : ∀ j, pl 19 p = some j → j < 19 → p = nI j → Q (some (.int (nI 1))) h) (k0 : pl 19 p = none → Q (some (.int (nI 0))) h) : Ok g MX4_isCards (m_J g MX4_isCards Q) 0 [some (.int p)] [] h 0 0 := by
  refine ok_iload_n dX4_isCards_0 rfl ?_
  refine ok_if_lt (tgt := 14) dX4_isCards_1 (by decide) (fun c1 => ?_) (fun c1 => ?_)
  · refine ok_iconst (v := nI 0) dX4_isCards_14 (by decide) ?_
    refine ok_iret dX4_isCards_15 rfl rfl ⟨Nat.le_of_ble_eq_true rfl, Nat.le_of_ble_eq_true rfl⟩ ?_
    exact k0 (pl_lt c1)
  · refine ok_iload_n dX4_isCards_4 rfl ?_
    refine ok_bipush (v := nI 18) dX4_isCards_5 (by decide) ?_
    refine ok_icmp_gt (tgt := 14) dX4_isCards_7 (by decide) (fun c2 => ?_) (fun c2 => ?_)
    · refine ok_iconst (v := nI 0) dX4_isCards_14 (by decide) ?_
      refine ok_iret dX4_isCards_15 rfl rfl ⟨Nat.le_of_ble_eq_true rfl, Nat.le_of_ble_eq_true rfl⟩ ?_
      refine k0 (pl_ge (by decide) ?_)
      revert c2
      rw [Int32.lt_iff_toInt_lt, Int32.le_iff_toInt_le, nI_toInt (by decide), nI_toInt (by decide)]
      omega
    · refine ok_iconst (v := nI 1) dX4_isCards_10 (by decide) ?_
      refine ok_goto (tgt := 15) dX4_isCards_11 (by decide) ?_
      refine ok_iret dX4_isCards_15 rfl rfl ⟨Nat.le_of_ble_eq_true rfl, Nat.le_of_ble_eq_true rfl⟩ ?_
      obtain ⟨j, e1, e2, e3⟩ := pl_in (n := 19) (i := p) (by decide) c1 (by
        revert c2
        rw [Int32.lt_iff_toInt_lt, Int32.le_iff_toInt_le, nI_toInt (by decide), nI_toInt (by decide)]
        omega)
      exact k1 j e1 e2 e3
theorem c_X3_clear (ha : hc h a = some (rowc b n c)) (k : ∀ h', hx [a] h h' → hc h' a = some (rowc b 0 0) → Q none h') : Ok g MX3_clear (m_J g MX3_clear Q) 0 [some (.ref a)] [] h 0 0 := by
  refine ok_aload_n dX3_clear_0 rfl rfl ?_
  refine ok_iconst (v := nI 0) dX3_clear_1 (by decide) ?_
  refine okR_put dX3_clear_2 fl_X3_15 (by assumption) (Nat.le_of_ble_eq_true rfl) (fun _ => ⟨rfl, rfl⟩) set_3_1 (fun h1 hx1 he1 => ?_)
  refine ok_aload_n dX3_clear_5 rfl rfl ?_
  refine ok_iconst (v := nI 0) dX3_clear_6 (by decide) ?_
  refine okR_put dX3_clear_7 fl_X3_19 (by assumption) (Nat.le_of_ble_eq_true rfl) (fun _ => ⟨rfl, rfl⟩) set_3_2 (fun h2 hx2 he2 => ?_)
  refine ok_vret dX3_clear_10 rfl ⟨Nat.le_of_ble_eq_true rfl, Nat.le_of_ble_eq_true rfl⟩ ?_
  exact k h2 (hx1.tr' hx2) he2
theorem c_X3_has {i : Int32} (ha : hc h a = some (rowc b n c)) (hn : n ≤ 18) (k1 : ∀ j, pl n i = some j → j < n → i = nI j → Q (some (.int (nI 1))) h) (k0 : pl n i = none → Q (some (.int (nI 0))) h) : Ok g MX3_has (m_J g MX3_has Q) 0 [some (.ref a), some (.int i)] [] h 0 0 := by
  refine ok_iload_n dX3_has_0 rfl ?_
  refine ok_if_lt (tgt := 16) dX3_has_1 (by decide) (fun c1 => ?_) (fun c1 => ?_)
  · refine ok_iconst (v := nI 0) dX3_has_16 (by decide) ?_
    refine ok_iret dX3_has_17 rfl rfl ⟨Nat.le_of_ble_eq_true rfl, Nat.le_of_ble_eq_true rfl⟩ ?_
    exact k0 (pl_lt c1)
  · refine ok_iload_n dX3_has_4 rfl ?_
    refine ok_aload_n dX3_has_5 rfl rfl ?_
    refine ok_get dX3_has_6 fl_X3_15 (by assumption) (by rfl) ?_
    refine ok_icmp_ge (tgt := 16) dX3_has_9 (by decide) (fun c2 => ?_) (fun c2 => ?_)
    · refine ok_iconst (v := nI 0) dX3_has_16 (by decide) ?_
      refine ok_iret dX3_has_17 rfl rfl ⟨Nat.le_of_ble_eq_true rfl, Nat.le_of_ble_eq_true rfl⟩ ?_
      exact k0 (pl_ge (by omega) c2)
    · refine ok_iconst (v := nI 1) dX3_has_12 (by decide) ?_
      refine ok_goto (tgt := 17) dX3_has_13 (by decide) ?_
      refine ok_iret dX3_has_17 rfl rfl ⟨Nat.le_of_ble_eq_true rfl, Nat.le_of_ble_eq_true rfl⟩ ?_
      obtain ⟨j, e1, e2, e3⟩ := pl_in (n := n) (by omega) c1 c2
      exact k1 j e1 e2 e3
theorem c_X3_heapAt {i : Int32} (ha : hc h a = some (rowc b n c)) (hb : hc h b = some (aI 18 F)) (hn : n ≤ 18) (k1 : ∀ j, pl n i = some j → j < n → i = nI j → Q (some (.int (nI (F j)))) h) (k0 : pl n i = none → Q (some (.int (nI 0))) h) : Ok g MX3_heapAt (m_J g MX3_heapAt Q) 0 [some (.ref a), some (.int i)] [] h 0 0 := by
  refine ok_iload_n dX3_heapAt_0 rfl ?_
  refine ok_if_lt (tgt := 21) dX3_heapAt_1 (by decide) (fun c1 => ?_) (fun c1 => ?_)
  · refine ok_iconst (v := nI 0) dX3_heapAt_21 (by decide) ?_
    refine ok_iret dX3_heapAt_22 rfl rfl ⟨Nat.le_of_ble_eq_true rfl, Nat.le_of_ble_eq_true rfl⟩ ?_
    exact k0 (pl_lt c1)
  · refine ok_iload_n dX3_heapAt_4 rfl ?_
    refine ok_aload_n dX3_heapAt_5 rfl rfl ?_
    refine ok_get dX3_heapAt_6 fl_X3_15 (by assumption) (by rfl) ?_
    refine ok_icmp_ge (tgt := 21) dX3_heapAt_9 (by decide) (fun c2 => ?_) (fun c2 => ?_)
    · refine ok_iconst (v := nI 0) dX3_heapAt_21 (by decide) ?_
      refine ok_iret dX3_heapAt_22 rfl rfl ⟨Nat.le_of_ble_eq_true rfl, Nat.le_of_ble_eq_true rfl⟩ ?_
      exact k0 (pl_ge (by omega) c2)
    · obtain ⟨j, e1, e2, e3⟩ := pl_in (n := n) (by omega) c1 c2
      subst e3
      refine ok_aload_n dX3_heapAt_12 rfl rfl ?_
      refine ok_get dX3_heapAt_13 fl_X3_9 (by assumption) (by rfl) ?_
      refine ok_iload_n dX3_heapAt_16 rfl ?_
      first | refine okN_iald dX3_heapAt_17 (by assumption) (by omega) (by decide) ?_ | refine okN_kald dX3_heapAt_17 (by assumption) (by omega) (by decide) ?_
      refine ok_goto (tgt := 22) dX3_heapAt_18 (by decide) ?_
      refine ok_iret dX3_heapAt_22 rfl rfl ⟨Nat.le_of_ble_eq_true rfl, Nat.le_of_ble_eq_true rfl⟩ ?_
      exact k1 j e1 e2 rfl
theorem c_X3_hasRoomFor {m : Nat} (ha : hc h a = some (rowc b n c)) (hc' : c ≤ 18) (hm : m < 2 ^ 31) (k1 : m + c ≤ 18 → Q (some (.int (nI 1))) h) (k0 : 18 < m + c → Q (some (.int (nI 0))) h) : Ok g MX3_hasRoomFor (m_J g MX3_hasRoomFor Q) 0 [some (.ref a), some (.int (nI m))] [] h 0 0 := by
  refine ok_iload_n dX3_hasRoomFor_0 rfl ?_
  refine ok_bipush (v := nI 18) dX3_hasRoomFor_1 (by decide) ?_
  refine ok_aload_n dX3_hasRoomFor_3 rfl rfl ?_
  refine ok_get dX3_hasRoomFor_4 fl_X3_19 (by assumption) (by rfl) ?_
  first | refine okN_isub dX3_hasRoomFor_7 (by omega) ?_ | refine ok_isub dX3_hasRoomFor_7 ?_
  refine okN_icmp_gt (tgt := 15) dX3_hasRoomFor_8 (by decide) (by omega) (by omega) (fun c1 => ?_) (fun c1 => ?_)
  · refine ok_iconst (v := nI 0) dX3_hasRoomFor_15 (by decide) ?_
    refine ok_iret dX3_hasRoomFor_16 rfl rfl ⟨Nat.le_of_ble_eq_true rfl, Nat.le_of_ble_eq_true rfl⟩ ?_
    exact k0 (by omega)
  · refine ok_iconst (v := nI 1) dX3_hasRoomFor_11 (by decide) ?_
    refine ok_goto (tgt := 16) dX3_hasRoomFor_12 (by decide) ?_
    refine ok_iret dX3_hasRoomFor_16 rfl rfl ⟨Nat.le_of_ble_eq_true rfl, Nat.le_of_ble_eq_true rfl⟩ ?_
    exact k1 (by omega)
end ROW1
