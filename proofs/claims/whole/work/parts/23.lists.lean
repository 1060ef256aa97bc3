/-! ===== THE LIST, counted ===== -/
def capL : List (List Nat) := [[1, 1, 1, 1, 1, 1, 1, 1, 1, 1, 1, 1, 1, 1, 1, 1, 1, 1, 1], [0, 1, 1, 1, 1, 1, 1, 1, 1, 1, 1, 1, 1, 1, 1, 1, 1, 1, 1], [0, 1, 2, 2, 2, 2, 2, 2, 2, 2, 2, 2, 2, 2, 2, 2, 2, 2, 2], [0, 1, 2, 3, 3, 3, 3, 3, 3, 3, 3, 3, 3, 3, 3, 3, 3, 3, 3], [0, 1, 3, 4, 5, 5, 5, 5, 5, 5, 5, 5, 5, 5, 5, 5, 5, 5, 5], [0, 1, 3, 5, 6, 7, 7, 7, 7, 7, 7, 7, 7, 7, 7, 7, 7, 7, 7], [0, 1, 4, 7, 9, 10, 11, 11, 11, 11, 11, 11, 11, 11, 11, 11, 11, 11, 11], [0, 1, 4, 8, 11, 13, 14, 15, 15, 15, 15, 15, 15, 15, 15, 15, 15, 15, 15], [0, 1, 5, 10, 15, 18, 20, 21, 22, 22, 22, 22, 22, 22, 22, 22, 22, 22, 22], [0, 1, 5, 12, 18, 23, 26, 28, 29, 30, 30, 30, 30, 30, 30, 30, 30, 30, 30], [0, 1, 6, 14, 23, 30, 35, 38, 40, 41, 42, 42, 42, 42, 42, 42, 42, 42, 42], [0, 1, 6, 16, 27, 37, 44, 49, 52, 54, 55, 56, 56, 56, 56, 56, 56, 56, 56], [0, 1, 7, 19, 34, 47, 58, 65, 70, 73, 75, 76, 77, 77, 77, 77, 77, 77, 77], [0, 1, 7, 21, 39, 57, 71, 82, 89, 94, 97, 99, 100, 101, 101, 101, 101, 101, 101], [0, 1, 8, 24, 47, 70, 90, 105, 116, 123, 128, 131, 133, 134, 135, 135, 135, 135, 135], [0, 1, 8, 27, 54, 84, 110, 131, 146, 157, 164, 169, 172, 174, 175, 176, 176, 176, 176], [0, 1, 9, 30, 64, 101, 136, 164, 186, 201, 212, 219, 224, 227, 229, 230, 231, 231, 231], [0, 1, 9, 33, 72, 119, 163, 201, 230, 252, 267, 278, 285, 290, 293, 295, 296, 297, 297], [0, 1, 10, 37, 84, 141, 199, 248, 288, 318, 340, 355, 366, 373, 378, 381, 383, 384, 385]]
def capF (i : Nat) : Nat := (capL.getD (i / 19) []).getD (i % 19) 0
def cap (n m : Nat) : Nat := capF (n * 19 + m)
theorem cap_mono : ∀ n, n < 19 → ∀ m, m < 19 → ∀ q, q < m + 1 → cap n q ≤ cap n m := by decide +kernel
theorem cap_small : ∀ i, i < 361 → capF i < 386 := by decide +kernel
theorem cap_0 : ∀ m, m < 19 → capF m = 1 := by decide +kernel
theorem cap_n0 : ∀ n, n < 18 → capF ((n + 1) * 19) = 0 := by decide +kernel
theorem cap_nm : ∀ n, n < 18 → ∀ m, m < 18 → capF ((n + 1) * 19 + (m + 1)) = capF ((n + 1) * 19 + m) + (if m ≤ n then capF ((n - m) * 19 + (m + 1)) else 0) := by decide +kernel
theorem cap_lt {n m : Nat} (hn : n < 19) (hm : m < 19) : cap n m < 386 := cap_small _ (by omega)
def Ls (h : mH) (a b : Nat) : Prop := hc h a = some (.inr (1, [.ref b])) ∧ hc h b = some (aI 361 capF)
theorem Ls.at {h h' : mH} {A : List Nat} {a b : Nat} (r : Ls h a b) (x : hx A h h') (n1 : a ∉ A) (n2 : b ∉ A) : Ls h' a b := ⟨x.at n1 r.1, x.at n2 r.2⟩
def nbN (l : List Nat) : Nat → Nat × Nat × Nat
  | 0 => (0, l.sum, l.sum)
  | i + 1 => ((nbN l i).1 + (cap (nbN l i).2.1 (nbN l i).2.2 - cap (nbN l i).2.1 (l.getD i 0)), (nbN l i).2.1 - l.getD i 0, l.getD i 0)
def nb (l : List Nat) : Nat := (nbN l l.length).1
theorem drop_sum : ∀ (l : List Nat) (i : Nat), i < l.length → (l.drop i).sum = l.getD i 0 + (l.drop (i + 1)).sum
  | [], i, h => by simp at h
  | x :: t, 0, h => by simp
  | x :: t, i + 1, h => by
    rw [List.drop_succ_cons, List.drop_succ_cons, List.getD_cons_succ]
    exact drop_sum t i (by simpa using h)
theorem nbN_inv {l : List Nat} (hl : okl l) : ∀ i, i ≤ l.length → (nbN l i).2.1 = (l.drop i).sum ∧ (nbN l i).2.2 < 19 ∧ (i < l.length → l.getD i 0 ≤ (nbN l i).2.2)
  | 0, _ => ⟨by simp [nbN], by have := hl.2.2; simp [nbN]; omega, fun _ => gd_sum l 0⟩
  | i + 1, hi => by
    obtain ⟨e1, e2, e3⟩ := nbN_inv hl i (by omega)
    have ds := drop_sum l i (by omega)
    have g1 := gd_sum l i
    have g2 := hl.2.2
    refine ⟨?_, ?_, fun q => ?_⟩
    · show (nbN l i).2.1 - l.getD i 0 = _
      omega
    · show l.getD i 0 < 19
      omega
    · show l.getD (i + 1) 0 ≤ l.getD i 0
      exact srt_get l i (i + 1) hl.1 (by omega) q
theorem drop_le : ∀ (l : List Nat) (i : Nat), (l.drop i).sum ≤ l.sum
  | [], i => by simp
  | x :: t, 0 => by simp
  | x :: t, i + 1 => by
    have := drop_le t i
    rw [List.drop_succ_cons, List.sum_cons]
    omega
def wrI (c : Nat) : Nat → Nat × Nat × List Nat → Nat × Nat × List Nat
  | 0, s => s
  | f + 1, s => if c ≤ s.1 then (if cap (s.1 - c) c ≤ s.2.1 then (s.1, s.2.1 - cap (s.1 - c) c, s.2.2) else wrI c f (s.1 - c, s.2.1, ins c s.2.2)) else s
def wrO (n : Nat) : Nat → Nat × Nat × List Nat → Nat × Nat × List Nat
  | 0, s => s
  | c + 1, s => wrO n c (wrI (c + 1) n s)
def wr (n k : Nat) : List Nat := (wrO n n (n, k, [])).2.2
def wrV (n : Nat) (s : Nat × Nat × List Nat) : Prop := okl s.2.2 ∧ s.2.2.sum + s.1 = n ∧ s.2.1 < 2 ^ 31
section LISTS
variable {g : mG} {h : mH} {Q : Option Value → mH → Prop} {a b ra rb : Nat} {l : List Nat}
theorem c_X1_cappedAt {n m : Nat} (r : Ls h a b) (hn : n < 19) (hm : m < 19) (k : Q (some (.int (nI (cap n m)))) h) : Ok g MX1_cappedAt (m_J g MX1_cappedAt Q) 0 [some (.ref a), some (.int (nI n)), some (.int (nI m))] [] h 0 0 := by
  obtain ⟨ea, eb⟩ := r
  refine ok_iload_n dX1_cappedAt_0 rfl ?_
  refine okN_if_lt (tgt := 34) dX1_cappedAt_1 (by decide) (by omega) ?_
  refine ok_iload_n dX1_cappedAt_4 rfl ?_
  refine ok_bipush (v := nI 19) dX1_cappedAt_5 (by decide) ?_
  refine okN_icmp_ge (tgt := 34) dX1_cappedAt_7 (by decide) (by omega) (by omega) (fun c2 => ?_) (fun c2 => ?_)
  · exact absurd c2 (by omega)
  · refine ok_iload_n dX1_cappedAt_10 rfl ?_
    refine okN_if_lt (tgt := 34) dX1_cappedAt_11 (by decide) (by omega) ?_
    refine ok_iload_n dX1_cappedAt_14 rfl ?_
    refine ok_bipush (v := nI 19) dX1_cappedAt_15 (by decide) ?_
    refine okN_icmp_ge (tgt := 34) dX1_cappedAt_17 (by decide) (by omega) (by omega) (fun c4 => ?_) (fun c4 => ?_)
    · exact absurd c4 (by omega)
    · refine ok_aload_n dX1_cappedAt_20 rfl rfl ?_
      refine ok_get dX1_cappedAt_21 fl_X1_9 (by assumption) (by rfl) ?_
      refine ok_iload_n dX1_cappedAt_24 rfl ?_
      refine ok_bipush (v := nI 19) dX1_cappedAt_25 (by decide) ?_
      first | refine okN_imul dX1_cappedAt_27 ?_ | refine ok_imul dX1_cappedAt_27 ?_
      refine ok_iload_n dX1_cappedAt_28 rfl ?_
      first | refine okN_iadd dX1_cappedAt_29 ?_ | refine ok_iadd dX1_cappedAt_29 ?_
      first | refine okN_iald dX1_cappedAt_30 (by assumption) (by omega) (by decide) ?_ | refine okN_kald dX1_cappedAt_30 (by assumption) (by omega) (by decide) ?_
      refine ok_goto (tgt := 35) dX1_cappedAt_31 (by decide) ?_
      refine ok_iret dX1_cappedAt_35 rfl rfl ⟨Nat.le_of_ble_eq_true rfl, Nat.le_of_ble_eq_true rfl⟩ ?_
      exact k
theorem c_X1_length {n : Nat} (r : Ls h a b) (hn : n < 19) (k : Q (some (.int (nI (cap n n)))) h) : Ok g MX1_length (m_J g MX1_length Q) 0 [some (.ref a), some (.int (nI n))] [] h 0 0 := by
  have ea := r.1
  refine ok_aload_n dX1_length_0 rfl rfl ?_
  refine ok_iload_n dX1_length_1 rfl ?_
  refine ok_iload_n dX1_length_2 rfl ?_
  refine call_X1_cappedAt dX1_length_3 lk_X1_15 ⟨Nat.le_of_ble_eq_true rfl, Nat.le_of_ble_eq_true rfl, Nat.le_of_ble_eq_true rfl⟩ (by assumption) (Nat.le_of_ble_eq_true rfl) ?_
  refine c_X1_cappedAt r hn hn ?_
  refine ok_iret dX1_length_6 rfl rfl ⟨Nat.le_of_ble_eq_true rfl, Nat.le_of_ble_eq_true rfl⟩ ?_
  exact k
theorem l_X1_numberOf {F : Nat → Nat} (r : Ls h a b) (er : hc h ra = some (rowc rb l.length l.sum)) (eb : hc h rb = some (aI 18 F)) (hF : arr F l) (hl : okl l) (k : Q (some (.int (nI (nb l)))) h) :
    ∀ (d i : Nat) (z : Option Value), i + d = l.length → Ok g MX1_numberOf (m_J g MX1_numberOf Q) 13 [some (.ref a), some (.ref ra), some (.int (nI (nbN l i).1)), some (.int (nI (nbN l i).2.1)), some (.int (nI (nbN l i).2.2)), some (.int (nI i)), z] [] h 0 0 := by
  have hlen := hl.len
  have ea := r.1
  intro d
  induction d with
  | zero =>
    intro i z hi
    refine ok_iload dX1_numberOf_13 rfl ?_
    refine ok_aload_n dX1_numberOf_15 rfl rfl ?_
    refine ok_get dX1_numberOf_16 fl_X1_25 (by assumption) (by rfl) ?_
    refine okN_icmp_ge (tgt := 63) dX1_numberOf_19 (by decide) (by omega) (by omega) (fun c1 => ?_) (fun c1 => ?_)
    · refine ok_iload_n dX1_numberOf_63 rfl ?_
      refine ok_iret dX1_numberOf_64 rfl rfl ⟨Nat.le_of_ble_eq_true rfl, Nat.le_of_ble_eq_true rfl⟩ ?_
      rw [show i = l.length by omega]
      exact k
    · exact absurd c1 (by omega)
  | succ d ih =>
    intro i z hi
    obtain ⟨e1, e2, e3⟩ := nbN_inv hl i (by omega)
    have ds := drop_sum l i (by omega)
    have dl := drop_le l i
    have g2 := hl.2.2
    have e3' := e3 (by omega)
    have nx := ih (i + 1)
    have cm := cap_mono (nbN l i).2.1 (by omega) (nbN l i).2.2 e2 (l.getD i 0) (by omega)
    refine ok_iload dX1_numberOf_13 rfl ?_
    refine ok_aload_n dX1_numberOf_15 rfl rfl ?_
    refine ok_get dX1_numberOf_16 fl_X1_25 (by assumption) (by rfl) ?_
    refine okN_icmp_ge (tgt := 63) dX1_numberOf_19 (by decide) (by omega) (by omega) (fun c1 => ?_) (fun c1 => ?_)
    · exact absurd c1 (by omega)
    · refine ok_aload_n dX1_numberOf_22 rfl rfl ?_
      refine ok_iload dX1_numberOf_23 rfl ?_
      refine call_X3_heapAt dX1_numberOf_25 lk_X1_28 ⟨Nat.le_of_ble_eq_true rfl, Nat.le_of_ble_eq_true rfl, Nat.le_of_ble_eq_true rfl⟩ (by assumption) (Nat.le_of_ble_eq_true rfl) ?_
      refine c_X3_heapAt er eb (by omega) (fun j q1 q2 q3 => ?_) (fun q => absurd q (by rw [pl_nI (by omega) (by omega)]; simp))
      have e4 : i = j := (nI_eq (by omega) (by omega)).mp q3
      subst e4
      rw [hF _ q2]
      refine ok_istore dX1_numberOf_28 (st_7_6 rfl) (Nat.le_of_ble_eq_true rfl) ?_
      refine ok_iload_n dX1_numberOf_30 rfl ?_
      refine ok_aload_n dX1_numberOf_31 rfl rfl ?_
      refine ok_iload_n dX1_numberOf_32 rfl ?_
      refine ok_iload dX1_numberOf_33 rfl ?_
      refine call_X1_cappedAt dX1_numberOf_35 lk_X1_15 ⟨Nat.le_of_ble_eq_true rfl, Nat.le_of_ble_eq_true rfl, Nat.le_of_ble_eq_true rfl⟩ (by assumption) (Nat.le_of_ble_eq_true rfl) ?_
      refine c_X1_cappedAt r (by omega) (by omega) ?_
      refine ok_aload_n dX1_numberOf_38 rfl rfl ?_
      refine ok_iload_n dX1_numberOf_39 rfl ?_
      refine ok_iload dX1_numberOf_40 rfl ?_
      refine call_X1_cappedAt dX1_numberOf_42 lk_X1_15 ⟨Nat.le_of_ble_eq_true rfl, Nat.le_of_ble_eq_true rfl, Nat.le_of_ble_eq_true rfl⟩ (by assumption) (Nat.le_of_ble_eq_true rfl) ?_
      refine c_X1_cappedAt r (by omega) (by omega) ?_
      first | refine okN_isub dX1_numberOf_45 (by omega) ?_ | refine ok_isub dX1_numberOf_45 ?_
      first | refine okN_iadd dX1_numberOf_46 ?_ | refine ok_iadd dX1_numberOf_46 ?_
      refine ok_istore_n dX1_numberOf_47 (st_7_2 rfl) (Nat.le_of_ble_eq_true rfl) ?_
      refine ok_iload_n dX1_numberOf_48 rfl ?_
      refine ok_iload dX1_numberOf_49 rfl ?_
      first | refine okN_isub dX1_numberOf_51 (by omega) ?_ | refine ok_isub dX1_numberOf_51 ?_
      refine ok_istore_n dX1_numberOf_52 (st_7_3 rfl) (Nat.le_of_ble_eq_true rfl) ?_
      refine ok_iload dX1_numberOf_53 rfl ?_
      refine ok_istore dX1_numberOf_55 (st_7_4 rfl) (Nat.le_of_ble_eq_true rfl) ?_
      refine okN_inc dX1_numberOf_57 rfl (st_7_5 rfl) (Nat.le_of_ble_eq_true rfl) ?_
      refine ok_goto (tgt := 13) dX1_numberOf_60 (by decide) ?_
      exact nx _ (by omega)
theorem c_X1_numberOf (r : Ls h a b) (rr : Rw h ra rb l) (hl : okl l) (k : Q (some (.int (nI (nb l)))) h) : Ok g MX1_numberOf (m_J g MX1_numberOf Q) 0 [some (.ref a), some (.ref ra), none, none, none, none, none] [] h 0 0 := by
  obtain ⟨er, F, eb, hF⟩ := rr
  refine ok_iconst (v := nI 0) dX1_numberOf_0 (by decide) ?_
  refine ok_istore_n dX1_numberOf_1 (st_7_2 rfl) (Nat.le_of_ble_eq_true rfl) ?_
  refine ok_aload_n dX1_numberOf_2 rfl rfl ?_
  refine ok_get dX1_numberOf_3 fl_X1_19 (by assumption) (by rfl) ?_
  refine ok_istore_n dX1_numberOf_6 (st_7_3 rfl) (Nat.le_of_ble_eq_true rfl) ?_
  refine ok_iload_n dX1_numberOf_7 rfl ?_
  refine ok_istore dX1_numberOf_8 (st_7_4 rfl) (Nat.le_of_ble_eq_true rfl) ?_
  refine ok_iconst (v := nI 0) dX1_numberOf_10 (by decide) ?_
  refine ok_istore dX1_numberOf_11 (st_7_5 rfl) (Nat.le_of_ble_eq_true rfl) ?_
  exact l_X1_numberOf r er eb hF hl k l.length 0 _ (by omega)
theorem l_X1_wrI {n kk c : Nat} (hab : ra ≠ rb) (h1a : a ≠ ra) (h1b : a ≠ rb) (h2a : b ≠ ra) (h2b : b ≠ rb) (hn : n < 19) (hc0 : 1 ≤ c) (hcn : c < 19) :
    ∀ (f i : Nat) (s : Nat × Nat × List Nat) (h1 : mH) (z : Option Value), i + f = n → wrV n s → hx [ra, rb] h h1 → Ls h1 a b → Rw h1 ra rb s.2.2 →
    (∀ (h' : mH) (z7 z8 : Option Value), hx [ra, rb] h h' → Ls h' a b → Rw h' ra rb (wrI c f s).2.2 → wrV n (wrI c f s) → Ok g MX1_write (m_J g MX1_write Q) 83 [some (.ref a), some (.ref ra), some (.int (nI n)), some (.int (nI kk)), some (.int (nI (wrI c f s).1)), some (.int (nI (wrI c f s).2.1)), some (.int (nI c)), z7, z8] [] h' 0 0) →
    Ok g MX1_write (m_J g MX1_write Q) 21 [some (.ref a), some (.ref ra), some (.int (nI n)), some (.int (nI kk)), some (.int (nI s.1)), some (.int (nI s.2.1)), some (.int (nI c)), some (.int (nI i)), z] [] h1 0 0 := by
  intro f
  induction f with
  | zero =>
    intro i s h1 z hi hV x1 r1 rr K
    refine ok_iload dX1_write_21 rfl ?_
    refine ok_iload_n dX1_write_23 rfl ?_
    refine okN_icmp_ge (tgt := 83) dX1_write_24 (by decide) (by omega) (by omega) (fun c1 => ?_) (fun c1 => ?_)
    · exact K h1 _ _ x1 r1 rr hV
    · exact absurd c1 (by omega)
  | succ f ih =>
    intro i s h1 z hi hV x1 r1 rr K
    obtain ⟨left, ahead, l⟩ := s
    obtain ⟨v1, v2, v3⟩ := hV
    dsimp only at v1 v2 v3 rr ⊢
    have ea := r1.1
    have er := rr.1
    refine ok_iload dX1_write_21 rfl ?_
    refine ok_iload_n dX1_write_23 rfl ?_
    refine okN_icmp_ge (tgt := 83) dX1_write_24 (by decide) (by omega) (by omega) (fun c1 => ?_) (fun c1 => ?_)
    · exact absurd c1 (by omega)
    · refine ok_iload dX1_write_27 rfl ?_
      refine ok_iload dX1_write_29 rfl ?_
      unfold wrI at K
      dsimp only at K
      refine okN_icmp_gt (tgt := 83) dX1_write_31 (by decide) (by omega) (by omega) (fun c2 => ?_) (fun c2 => ?_)
      · rw [if_neg (by omega)] at K
        exact K h1 _ _ x1 r1 rr ⟨v1, v2, v3⟩
      · rw [if_pos c2] at K
        refine ok_aload_n dX1_write_34 rfl rfl ?_
        refine ok_iload dX1_write_35 rfl ?_
        refine ok_iload dX1_write_37 rfl ?_
        first | refine okN_isub dX1_write_39 (by omega) ?_ | refine ok_isub dX1_write_39 ?_
        refine ok_iload dX1_write_40 rfl ?_
        refine call_X1_cappedAt dX1_write_42 lk_X1_15 ⟨Nat.le_of_ble_eq_true rfl, Nat.le_of_ble_eq_true rfl, Nat.le_of_ble_eq_true rfl⟩ (by assumption) (Nat.le_of_ble_eq_true rfl) ?_
        refine c_X1_cappedAt r1 (by omega) (by omega) ?_
        have cl := cap_lt (n := left - c) (m := c) (by omega) (by omega)
        refine ok_istore dX1_write_45 (st_9_8 rfl) (Nat.le_of_ble_eq_true rfl) ?_
        refine ok_iload dX1_write_47 rfl ?_
        refine ok_iload dX1_write_49 rfl ?_
        refine okN_icmp_lt (tgt := 64) dX1_write_51 (by decide) (by omega) (by omega) (fun c3 => ?_) (fun c3 => ?_)
        · rw [if_neg (by omega)] at K
          refine ok_aload_n dX1_write_64 rfl rfl ?_
          refine ok_iload dX1_write_65 rfl ?_
          refine call_X3_put dX1_write_67 lk_X1_35 ⟨Nat.le_of_ble_eq_true rfl, Nat.le_of_ble_eq_true rfl, Nat.le_of_ble_eq_true rfl⟩ (by assumption) (Nat.le_of_ble_eq_true rfl) ?_
          refine c_X3_put rr hab v1 hc0 (by omega) (fun h2 x2 r3 => ?_)
          refine ok_iload dX1_write_70 rfl ?_
          refine ok_iload dX1_write_72 rfl ?_
          first | refine okN_isub dX1_write_74 (by omega) ?_ | refine ok_isub dX1_write_74 ?_
          refine ok_istore dX1_write_75 (st_9_4 rfl) (Nat.le_of_ble_eq_true rfl) ?_
          refine okN_inc dX1_write_77 rfl (st_9_7 rfl) (Nat.le_of_ble_eq_true rfl) ?_
          refine ok_goto (tgt := 21) dX1_write_80 (by decide) ?_
          refine ih (i + 1) (left - c, ahead, ins c l) h2 _ (by omega) ⟨okl_ins v1 hc0 (by omega), ?_, v3⟩ (x1.tr' x2) (r1.at x2 (by simp [h1a, h1b]) (by simp [h2a, h2b])) r3 K
          show (ins c l).sum + (left - c) = n
          rw [ins_sum]
          omega
        · rw [if_pos c3] at K
          refine ok_iload dX1_write_54 rfl ?_
          refine ok_iload dX1_write_56 rfl ?_
          first | refine okN_isub dX1_write_58 (by omega) ?_ | refine ok_isub dX1_write_58 ?_
          refine ok_istore dX1_write_59 (st_9_5 rfl) (Nat.le_of_ble_eq_true rfl) ?_
          refine ok_goto (tgt := 83) dX1_write_61 (by decide) ?_
          exact K h1 _ _ x1 r1 rr ⟨v1, v2, by show ahead - _ < _; omega⟩
theorem l_X1_wrO {n kk : Nat} (hab : ra ≠ rb) (h1a : a ≠ ra) (h1b : a ≠ rb) (h2a : b ≠ ra) (h2b : b ≠ rb) (hn : n < 19) :
    ∀ (c : Nat) (s : Nat × Nat × List Nat) (h1 : mH) (z7 z8 : Option Value), c < 19 → wrV n s → hx [ra, rb] h h1 → Ls h1 a b → Rw h1 ra rb s.2.2 →
    (∀ (h' : mH), hx [ra, rb] h h' → Rw h' ra rb (wrO n c s).2.2 → okl (wrO n c s).2.2 → Q none h') →
    Ok g MX1_write (m_J g MX1_write Q) 13 [some (.ref a), some (.ref ra), some (.int (nI n)), some (.int (nI kk)), some (.int (nI s.1)), some (.int (nI s.2.1)), some (.int (nI c)), z7, z8] [] h1 0 0 := by
  intro c
  induction c with
  | zero =>
    intro s h1 z7 z8 hc0 hV x1 r1 rr K
    refine ok_iload dX1_write_13 rfl ?_
    refine okN_if_le (tgt := 89) dX1_write_15 (by decide) (by omega) (fun c1 => ?_) (fun c1 => ?_)
    · refine ok_vret dX1_write_89 rfl ⟨Nat.le_of_ble_eq_true rfl, Nat.le_of_ble_eq_true rfl⟩ ?_
      exact K h1 x1 rr hV.1
    · exact absurd c1 (by omega)
  | succ c ih =>
    intro s h1 z7 z8 hc0 hV x1 r1 rr K
    refine ok_iload dX1_write_13 rfl ?_
    refine okN_if_le (tgt := 89) dX1_write_15 (by decide) (by omega) (fun c1 => ?_) (fun c1 => ?_)
    · exact absurd c1 (by omega)
    · refine ok_iconst (v := nI 0) dX1_write_18 (by decide) ?_
      refine ok_istore dX1_write_19 (st_9_7 rfl) (Nat.le_of_ble_eq_true rfl) ?_
      refine l_X1_wrI (h := h) hab h1a h1b h2a h2b hn (by omega) hc0 n 0 s h1 _ (by omega) hV x1 r1 rr (fun h' y7 y8 x2 r2 rr2 hV2 => ?_)
      refine okN_dec dX1_write_83 rfl (by omega) (st_9_6 rfl) (Nat.le_of_ble_eq_true rfl) ?_
      refine ok_goto (tgt := 13) dX1_write_86 (by decide) ?_
      exact ih _ h' _ _ (by omega) hV2 x2 r2 rr2 K
theorem c_X1_write {n kk : Nat} (r : Ls h a b) (rr : Rw h ra rb l) (hab : ra ≠ rb) (h1a : a ≠ ra) (h1b : a ≠ rb) (h2a : b ≠ ra) (h2b : b ≠ rb) (hn : n < 19) (hk : kk < 2 ^ 31) (k : ∀ h', hx [ra, rb] h h' → Rw h' ra rb (wr n kk) → okl (wr n kk) → Q none h') :
    Ok g MX1_write (m_J g MX1_write Q) 0 [some (.ref a), some (.ref ra), some (.int (nI n)), some (.int (nI kk)), none, none, none, none, none] [] h 0 0 := by
  obtain ⟨er, F, eb, hF⟩ := rr
  refine ok_aload_n dX1_write_0 rfl rfl ?_
  refine call_X3_clear dX1_write_1 lk_X1_32 ⟨Nat.le_of_ble_eq_true rfl, Nat.le_of_ble_eq_true rfl, Nat.le_of_ble_eq_true rfl⟩ (by assumption) (Nat.le_of_ble_eq_true rfl) ?_
  refine c_X3_clear er (fun h1 x1 e1 => ?_)
  refine ok_iload_n dX1_write_4 rfl ?_
  refine ok_istore dX1_write_5 (st_9_4 rfl) (Nat.le_of_ble_eq_true rfl) ?_
  refine ok_iload_n dX1_write_7 rfl ?_
  refine ok_istore dX1_write_8 (st_9_5 rfl) (Nat.le_of_ble_eq_true rfl) ?_
  refine ok_iload_n dX1_write_10 rfl ?_
  refine ok_istore dX1_write_11 (st_9_6 rfl) (Nat.le_of_ble_eq_true rfl) ?_
  exact l_X1_wrO (h := h) hab h1a h1b h2a h2b hn n (n, kk, []) h1 _ _ hn ⟨okl_nil, by simp, hk⟩ (x1.mono (by simp)) (r.at x1 (by simp [h1a]) (by simp [h2a])) ⟨e1, F, x1.at (by simp [Ne.symm hab]) eb, fun i hi => by simp at hi⟩ k
end LISTS
