/-! ===== the rest of a row's methods, Arrays.fill ===== -/
def hfr (c : Nat) : List Nat → Nat
  | [] => 0
  | x :: t => if c ≤ x then hfr c t + 1 else 0
theorem hfr_eq (c : Nat) : ∀ (l : List Nat) (i : Nat), i ≤ l.length → (∀ j, j < i → c ≤ l.getD j 0) → (i < l.length → l.getD i 0 < c) → hfr c l = i
  | [], i, hi, _, _ => by simp at hi; subst hi; rfl
  | x :: t, 0, hi, _, h2 => by
    have := h2 (by simp)
    rw [List.getD_cons_zero] at this
    unfold hfr
    rw [if_neg (by omega)]
  | x :: t, i + 1, hi, h1, h2 => by
    have h3 := h1 0 (by omega)
    rw [List.getD_cons_zero] at h3
    unfold hfr
    rw [if_pos h3, hfr_eq c t i (by simpa using hi) (fun j hj => by have := h1 (j + 1) (by omega); rwa [List.getD_cons_succ] at this) (fun hj => by have := h2 (by simpa using hj); rwa [List.getD_cons_succ] at this)]
def uhN (l : List Nat) : Nat → Nat
  | 0 => 0
  | i + 1 => uhN l i + (if i = 0 ∨ l.getD i 0 ≠ l.getD (i - 1) 0 then 1 else 0)
theorem uhN_le (l : List Nat) : ∀ i, uhN l i ≤ i
  | 0 => Nat.le_refl _
  | i + 1 => by
    have := uhN_le l i
    unfold uhN
    split <;> omega
def tlN (l : List Nat) : Nat → Nat → Nat
  | 0 => fun _ => 0
  | i + 1 => up (tlN l i) (l.getD i 0) (tlN l i (l.getD i 0) + 1)
theorem tlN_le (l : List Nat) : ∀ i c, tlN l i c ≤ i
  | 0, c => Nat.le_refl _
  | i + 1, c => by
    unfold tlN
    by_cases e : c = l.getD i 0
    · rw [e, up_eq]
      have := tlN_le l i (l.getD i 0)
      omega
    · rw [up_ne e]
      have := tlN_le l i c
      omega
def dgN (l : List Nat) (s : Int64) : Nat → Int64
  | 0 => 31 * s + lN l.length
  | i + 1 => 31 * dgN l s i + lN (l.getD i 0)
def ppN (ls : List Nat) (f : Nat) (l : List Nat) : Nat → List Nat
  | 0 => l
  | i + 1 => ins (ls.getD (f + i) 0) (ppN ls f l i)
section ROW3
variable {g : mG} {h : mH} {Q : Option Value → mH → Prop} {a b n c : Nat} {F : Nat → Nat} {l : List Nat}
theorem l_X3_heapsFrom {m : Nat} (ea : hc h a = some (rowc b l.length l.sum)) (eb : hc h b = some (aI 18 F)) (hF : arr F l) (hl : okl l) (hm : m < 2 ^ 31) (k : Q (some (.int (nI (hfr m l)))) h) :
    ∀ (d i : Nat), i + d = l.length → (∀ j, j < i → m ≤ l.getD j 0) → Ok g MX3_heapsFrom (m_J g MX3_heapsFrom Q) 4 [some (.ref a), some (.int (nI m)), some (.int (nI i)), some (.int (nI i))] [] h 0 0 := by
  have hlen := hl.len
  intro d
  induction d with
  | zero =>
    intro i hi h1
    refine ok_iload_n dX3_heapsFrom_4 rfl ?_
    refine ok_aload_n dX3_heapsFrom_5 rfl rfl ?_
    refine ok_get dX3_heapsFrom_6 fl_X3_15 (by assumption) (by rfl) ?_
    refine okN_icmp_ge (tgt := 31) dX3_heapsFrom_9 (by decide) (by omega) (by omega) (fun c1 => ?_) (fun c1 => ?_)
    · refine ok_iload_n dX3_heapsFrom_31 rfl ?_
      refine ok_iret dX3_heapsFrom_32 rfl rfl ⟨Nat.le_of_ble_eq_true rfl, Nat.le_of_ble_eq_true rfl⟩ ?_
      rw [← hfr_eq m l i (by omega) h1 (fun q => by omega)]
      exact k
    · exact absurd c1 (by omega)
  | succ d ih =>
    intro i hi h1
    have gb := gd_sum l i
    have gs := hl.2.2
    refine ok_iload_n dX3_heapsFrom_4 rfl ?_
    refine ok_aload_n dX3_heapsFrom_5 rfl rfl ?_
    refine ok_get dX3_heapsFrom_6 fl_X3_15 (by assumption) (by rfl) ?_
    refine okN_icmp_ge (tgt := 31) dX3_heapsFrom_9 (by decide) (by omega) (by omega) (fun c1 => ?_) (fun c1 => ?_)
    · exact absurd c1 (by omega)
    · refine ok_aload_n dX3_heapsFrom_12 rfl rfl ?_
      refine ok_get dX3_heapsFrom_13 fl_X3_9 (by assumption) (by rfl) ?_
      refine ok_iload_n dX3_heapsFrom_16 rfl ?_
      first | refine okN_iald dX3_heapsFrom_17 (by assumption) (by omega) (by decide) ?_ | refine okN_kald dX3_heapsFrom_17 (by assumption) (by omega) (by decide) ?_
      refine ok_iload_n dX3_heapsFrom_18 rfl ?_
      rw [hF i c1]
      refine okN_icmp_lt (tgt := 31) dX3_heapsFrom_19 (by decide) (by omega) (by omega) (fun c2 => ?_) (fun c2 => ?_)
      · refine ok_iload_n dX3_heapsFrom_31 rfl ?_
        refine ok_iret dX3_heapsFrom_32 rfl rfl ⟨Nat.le_of_ble_eq_true rfl, Nat.le_of_ble_eq_true rfl⟩ ?_
        rw [← hfr_eq m l i (by omega) h1 (fun q => by omega)]
        exact k
      · refine okN_inc dX3_heapsFrom_22 rfl (st_4_2 rfl) (Nat.le_of_ble_eq_true rfl) ?_
        refine okN_inc dX3_heapsFrom_25 rfl (st_4_3 rfl) (Nat.le_of_ble_eq_true rfl) ?_
        refine ok_goto (tgt := 4) dX3_heapsFrom_28 (by decide) ?_
        refine ih (i + 1) (by omega) (fun j hj => ?_)
        by_cases e : j = i
        · rw [e]; exact c2
        · exact h1 j (by omega)
theorem c_X3_heapsFrom {m : Nat} (r : Rw h a b l) (hl : okl l) (hm : m < 2 ^ 31) (k : Q (some (.int (nI (hfr m l)))) h) : Ok g MX3_heapsFrom (m_J g MX3_heapsFrom Q) 0 [some (.ref a), some (.int (nI m)), none, none] [] h 0 0 := by
  obtain ⟨ea, F, eb, hF⟩ := r
  refine ok_iconst (v := nI 0) dX3_heapsFrom_0 (by decide) ?_
  refine ok_istore_n dX3_heapsFrom_1 (st_4_2 rfl) (Nat.le_of_ble_eq_true rfl) ?_
  refine ok_iconst (v := nI 0) dX3_heapsFrom_2 (by decide) ?_
  refine ok_istore_n dX3_heapsFrom_3 (st_4_3 rfl) (Nat.le_of_ble_eq_true rfl) ?_
  exact l_X3_heapsFrom ea eb hF hl hm k l.length 0 (by omega) (fun j hj => by omega)
theorem l_X3_unlikeHeaps (ea : hc h a = some (rowc b l.length l.sum)) (eb : hc h b = some (aI 18 F)) (hF : arr F l) (hl : okl l) (k : Q (some (.int (nI (uhN l l.length)))) h) :
    ∀ (d i : Nat), i + d = l.length → Ok g MX3_unlikeHeaps (m_J g MX3_unlikeHeaps Q) 4 [some (.ref a), some (.int (nI (uhN l i))), some (.int (nI i))] [] h 0 0 := by
  have hlen := hl.len
  have gs := hl.2.2
  intro d
  induction d with
  | zero =>
    intro i hi
    refine ok_iload_n dX3_unlikeHeaps_4 rfl ?_
    refine ok_aload_n dX3_unlikeHeaps_5 rfl rfl ?_
    refine ok_get dX3_unlikeHeaps_6 fl_X3_15 (by assumption) (by rfl) ?_
    refine okN_icmp_ge (tgt := 47) dX3_unlikeHeaps_9 (by decide) (by omega) (by omega) (fun c1 => ?_) (fun c1 => ?_)
    · refine ok_iload_n dX3_unlikeHeaps_47 rfl ?_
      refine ok_iret dX3_unlikeHeaps_48 rfl rfl ⟨Nat.le_of_ble_eq_true rfl, Nat.le_of_ble_eq_true rfl⟩ ?_
      rw [show i = l.length by omega]
      exact k
    · exact absurd c1 (by omega)
  | succ d ih =>
    intro i hi
    have gb := gd_sum l i
    have gb1 := gd_sum l (i - 1)
    have step : Ok g MX3_unlikeHeaps (m_J g MX3_unlikeHeaps Q) 4 [some (.ref a), some (.int (nI (uhN l (i + 1)))), some (.int (nI (i + 1)))] [] h 0 0 := ih (i + 1) (by omega)
    refine ok_iload_n dX3_unlikeHeaps_4 rfl ?_
    refine ok_aload_n dX3_unlikeHeaps_5 rfl rfl ?_
    refine ok_get dX3_unlikeHeaps_6 fl_X3_15 (by assumption) (by rfl) ?_
    refine okN_icmp_ge (tgt := 47) dX3_unlikeHeaps_9 (by decide) (by omega) (by omega) (fun c1 => ?_) (fun c1 => ?_)
    · exact absurd c1 (by omega)
    · refine ok_iload_n dX3_unlikeHeaps_12 rfl ?_
      refine ok_iload_n dX3_unlikeHeaps_13 rfl ?_
      refine okN_if_eq (tgt := 34) dX3_unlikeHeaps_14 (by decide) (by omega) (fun c2 => ?_) (fun c2 => ?_)
      · refine ok_iconst (v := nI 1) dX3_unlikeHeaps_34 (by decide) ?_
        refine ok_goto (tgt := 39) dX3_unlikeHeaps_35 (by decide) ?_
        first | refine okN_iadd dX3_unlikeHeaps_39 ?_ | refine ok_iadd dX3_unlikeHeaps_39 ?_
        refine ok_istore_n dX3_unlikeHeaps_40 (st_3_1 rfl) (Nat.le_of_ble_eq_true rfl) ?_
        refine okN_inc dX3_unlikeHeaps_41 rfl (st_3_2 rfl) (Nat.le_of_ble_eq_true rfl) ?_
        refine ok_goto (tgt := 4) dX3_unlikeHeaps_44 (by decide) ?_
        unfold uhN at step
        rw [if_pos (Or.inl c2)] at step
        exact step
      · refine ok_aload_n dX3_unlikeHeaps_17 rfl rfl ?_
        refine ok_get dX3_unlikeHeaps_18 fl_X3_9 (by assumption) (by rfl) ?_
        refine ok_iload_n dX3_unlikeHeaps_21 rfl ?_
        first | refine okN_iald dX3_unlikeHeaps_22 (by assumption) (by omega) (by decide) ?_ | refine okN_kald dX3_unlikeHeaps_22 (by assumption) (by omega) (by decide) ?_
        refine ok_aload_n dX3_unlikeHeaps_23 rfl rfl ?_
        refine ok_get dX3_unlikeHeaps_24 fl_X3_9 (by assumption) (by rfl) ?_
        refine ok_iload_n dX3_unlikeHeaps_27 rfl ?_
        refine ok_iconst (v := nI 1) dX3_unlikeHeaps_28 (by decide) ?_
        first | refine okN_isub dX3_unlikeHeaps_29 (by omega) ?_ | refine ok_isub dX3_unlikeHeaps_29 ?_
        first | refine okN_iald dX3_unlikeHeaps_30 (by assumption) (by omega) (by decide) ?_ | refine okN_kald dX3_unlikeHeaps_30 (by assumption) (by omega) (by decide) ?_
        rw [hF i c1, hF (i - 1) (by omega)]
        refine okN_icmp_eq (tgt := 38) dX3_unlikeHeaps_31 (by decide) (by omega) (by omega) (fun c3 => ?_) (fun c3 => ?_)
        · refine ok_iconst (v := nI 0) dX3_unlikeHeaps_38 (by decide) ?_
          first | refine okN_iadd dX3_unlikeHeaps_39 ?_ | refine ok_iadd dX3_unlikeHeaps_39 ?_
          refine ok_istore_n dX3_unlikeHeaps_40 (st_3_1 rfl) (Nat.le_of_ble_eq_true rfl) ?_
          refine okN_inc dX3_unlikeHeaps_41 rfl (st_3_2 rfl) (Nat.le_of_ble_eq_true rfl) ?_
          refine ok_goto (tgt := 4) dX3_unlikeHeaps_44 (by decide) ?_
          unfold uhN at step
          rw [if_neg (by omega)] at step
          exact step
        · refine ok_iconst (v := nI 1) dX3_unlikeHeaps_34 (by decide) ?_
          refine ok_goto (tgt := 39) dX3_unlikeHeaps_35 (by decide) ?_
          first | refine okN_iadd dX3_unlikeHeaps_39 ?_ | refine ok_iadd dX3_unlikeHeaps_39 ?_
          refine ok_istore_n dX3_unlikeHeaps_40 (st_3_1 rfl) (Nat.le_of_ble_eq_true rfl) ?_
          refine okN_inc dX3_unlikeHeaps_41 rfl (st_3_2 rfl) (Nat.le_of_ble_eq_true rfl) ?_
          refine ok_goto (tgt := 4) dX3_unlikeHeaps_44 (by decide) ?_
          unfold uhN at step
          rw [if_pos (Or.inr c3)] at step
          exact step
theorem c_X3_unlikeHeaps (r : Rw h a b l) (hl : okl l) (k : Q (some (.int (nI (uhN l l.length)))) h) : Ok g MX3_unlikeHeaps (m_J g MX3_unlikeHeaps Q) 0 [some (.ref a), none, none] [] h 0 0 := by
  obtain ⟨ea, F, eb, hF⟩ := r
  refine ok_iconst (v := nI 0) dX3_unlikeHeaps_0 (by decide) ?_
  refine ok_istore_n dX3_unlikeHeaps_1 (st_3_1 rfl) (Nat.le_of_ble_eq_true rfl) ?_
  refine ok_iconst (v := nI 0) dX3_unlikeHeaps_2 (by decide) ?_
  refine ok_istore_n dX3_unlikeHeaps_3 (st_3_2 rfl) (Nat.le_of_ble_eq_true rfl) ?_
  exact l_X3_unlikeHeaps ea eb hF hl k l.length 0 (by omega)
theorem l_J7_fillI {x N : Nat} (hN : N < 2 ^ 31) (k : ∀ h', hx [a] h h' → hc h' a = some (aI N (fun _ => x)) → Q none h') :
    ∀ (d i : Nat) (h1 : mH) (G : Nat → Nat), i + d = N → hx [a] h h1 → hc h1 a = some (aI N G) → (∀ j, j < i → G j = x) → Ok g MJ7_fill_53178 (m_J g MJ7_fill_53178 Q) 5 [some (.ref a), some (.int (nI x)), some (.int (nI i)), some (.int (nI N))] [] h1 0 0 := by
  intro d
  induction d with
  | zero =>
    intro i h1 G hi x1 ea hG
    refine ok_extI (G' := fun _ => x) ea (fun j hj => hG j (by omega)) (fun h2 x2 ea2 => ?_)
    refine ok_iload_n dJ7_fill_53178_5 rfl ?_
    refine ok_iload_n dJ7_fill_53178_6 rfl ?_
    refine okN_icmp_ge (tgt := 20) dJ7_fill_53178_7 (by decide) (by omega) (by omega) (fun c1 => ?_) (fun c1 => ?_)
    · refine ok_vret dJ7_fill_53178_20 rfl ⟨Nat.le_of_ble_eq_true rfl, Nat.le_of_ble_eq_true rfl⟩ ?_
      exact k h2 (x1.tr' x2) ea2
    · exact absurd c1 (by omega)
  | succ d ih =>
    intro i h1 G hi x1 ea hG
    refine ok_iload_n dJ7_fill_53178_5 rfl ?_
    refine ok_iload_n dJ7_fill_53178_6 rfl ?_
    refine okN_icmp_ge (tgt := 20) dJ7_fill_53178_7 (by decide) (by omega) (by omega) (fun c1 => ?_) (fun c1 => ?_)
    · exact absurd c1 (by omega)
    · refine ok_aload_n dJ7_fill_53178_10 rfl rfl ?_
      refine ok_iload_n dJ7_fill_53178_11 rfl ?_
      refine ok_iload_n dJ7_fill_53178_12 rfl ?_
      refine okN_iast dJ7_fill_53178_13 ea (by omega) hN (fun h2 hx2 he2 => ?_)
      refine okN_inc dJ7_fill_53178_14 rfl (st_4_2 rfl) (Nat.le_of_ble_eq_true rfl) ?_
      refine ok_goto (tgt := 5) dJ7_fill_53178_17 (by decide) ?_
      refine ih (i + 1) h2 _ (by omega) (x1.tr' hx2) he2 (fun j hj => ?_)
      by_cases e : j = i
      · rw [e, up_eq]
      · rw [up_ne e]; exact hG j (by omega)
theorem c_J7_fillI {x N : Nat} (ea : hc h a = some (aI N F)) (hN : N < 2 ^ 31) (k : ∀ h', hx [a] h h' → hc h' a = some (aI N (fun _ => x)) → Q none h') : Ok g MJ7_fill_53178 (m_J g MJ7_fill_53178 Q) 0 [some (.ref a), some (.int (nI x)), none, none] [] h 0 0 := by
  refine ok_iconst (v := nI 0) dJ7_fill_53178_0 (by decide) ?_
  refine ok_istore_n dJ7_fill_53178_1 (st_4_2 rfl) (Nat.le_of_ble_eq_true rfl) ?_
  refine ok_aload_n dJ7_fill_53178_2 rfl rfl ?_
  first | refine okN_alen dJ7_fill_53178_3 (by assumption) ?_ | refine okJ_alen dJ7_fill_53178_3 (by assumption) ?_
  refine ok_istore_n dJ7_fill_53178_4 (st_4_3 rfl) (Nat.le_of_ble_eq_true rfl) ?_
  exact l_J7_fillI hN k N 0 h F (by omega) hx.rf ea (fun j hj => by omega)
theorem l_J7_fillJ {N : Nat} {x : Int64} (hN : N < 2 ^ 31) (k : ∀ h', hx [a] h h' → hc h' a = some (aJ N (fun _ => x)) → Q none h') :
    ∀ (d i : Nat) (h1 : mH) (G : Nat → Int64), i + d = N → hx [a] h h1 → hc h1 a = some (aJ N G) → (∀ j, j < i → G j = x) → Ok g MJ7_fill_d0a16 (m_J g MJ7_fill_d0a16 Q) 6 [some (.ref a), some (.long x), none, some (.int (nI i)), some (.int (nI N))] [] h1 0 0 := by
  intro d
  induction d with
  | zero =>
    intro i h1 G hi x1 ea hG
    refine ok_extJ (G' := fun _ => x) ea (fun j hj => hG j (by omega)) (fun h2 x2 ea2 => ?_)
    refine ok_iload_n dJ7_fill_d0a16_6 rfl ?_
    refine ok_iload dJ7_fill_d0a16_7 rfl ?_
    refine okN_icmp_ge (tgt := 22) dJ7_fill_d0a16_9 (by decide) (by omega) (by omega) (fun c1 => ?_) (fun c1 => ?_)
    · refine ok_vret dJ7_fill_d0a16_22 rfl ⟨Nat.le_of_ble_eq_true rfl, Nat.le_of_ble_eq_true rfl⟩ ?_
      exact k h2 (x1.tr' x2) ea2
    · exact absurd c1 (by omega)
  | succ d ih =>
    intro i h1 G hi x1 ea hG
    refine ok_iload_n dJ7_fill_d0a16_6 rfl ?_
    refine ok_iload dJ7_fill_d0a16_7 rfl ?_
    refine okN_icmp_ge (tgt := 22) dJ7_fill_d0a16_9 (by decide) (by omega) (by omega) (fun c1 => ?_) (fun c1 => ?_)
    · exact absurd c1 (by omega)
    · refine ok_aload_n dJ7_fill_d0a16_12 rfl rfl ?_
      refine ok_iload_n dJ7_fill_d0a16_13 rfl ?_
      refine ok_lload_n dJ7_fill_d0a16_14 rfl ?_
      refine okN_last dJ7_fill_d0a16_15 ea (by omega) hN (fun h2 hx2 he2 => ?_)
      refine okN_inc dJ7_fill_d0a16_16 rfl (st_5_3 rfl) (Nat.le_of_ble_eq_true rfl) ?_
      refine ok_goto (tgt := 6) dJ7_fill_d0a16_19 (by decide) ?_
      refine ih (i + 1) h2 _ (by omega) (x1.tr' hx2) he2 (fun j hj => ?_)
      by_cases e : j = i
      · rw [e, up_eq]
      · rw [up_ne e]; exact hG j (by omega)
theorem c_J7_fillJ {N : Nat} {x : Int64} {G : Nat → Int64} (ea : hc h a = some (aJ N G)) (hN : N < 2 ^ 31) (k : ∀ h', hx [a] h h' → hc h' a = some (aJ N (fun _ => x)) → Q none h') : Ok g MJ7_fill_d0a16 (m_J g MJ7_fill_d0a16 Q) 0 [some (.ref a), some (.long x), none, none, none] [] h 0 0 := by
  refine ok_iconst (v := nI 0) dJ7_fill_d0a16_0 (by decide) ?_
  refine ok_istore_n dJ7_fill_d0a16_1 (st_5_3 rfl) (Nat.le_of_ble_eq_true rfl) ?_
  refine ok_aload_n dJ7_fill_d0a16_2 rfl rfl ?_
  first | refine okN_alen dJ7_fill_d0a16_3 (by assumption) ?_ | refine okJ_alen dJ7_fill_d0a16_3 (by assumption) ?_
  refine ok_istore dJ7_fill_d0a16_4 (st_5_4 rfl) (Nat.le_of_ble_eq_true rfl) ?_
  exact l_J7_fillJ hN k N 0 h G (by omega) hx.rf ea (fun j hj => by omega)
theorem l_X3_tallyInto {t : Nat} (hta : t ≠ a) (htb : t ≠ b) (hF : arr F l) (hl : okl l) (k : ∀ h', hx [t] h h' → hc h' t = some (aI 20 (tlN l l.length)) → Q none h') :
    ∀ (d i : Nat) (h1 : mH), i + d = l.length → hx [t] h h1 → hc h1 a = some (rowc b l.length l.sum) → hc h1 b = some (aI 18 F) → hc h1 t = some (aI 20 (tlN l i)) → ∀ z, Ok g MX3_tallyInto (m_J g MX3_tallyInto Q) 7 [some (.ref a), some (.ref t), some (.int (nI i)), z] [] h1 0 0 := by
  have hlen := hl.len
  have gs := hl.2.2
  intro d
  induction d with
  | zero =>
    intro i h1 hi x1 ea eb et z
    refine ok_iload_n dX3_tallyInto_7 rfl ?_
    refine ok_aload_n dX3_tallyInto_8 rfl rfl ?_
    refine ok_get dX3_tallyInto_9 fl_X3_15 (by assumption) (by rfl) ?_
    refine okN_icmp_ge (tgt := 41) dX3_tallyInto_12 (by decide) (by omega) (by omega) (fun c1 => ?_) (fun c1 => ?_)
    · refine ok_vret dX3_tallyInto_41 rfl ⟨Nat.le_of_ble_eq_true rfl, Nat.le_of_ble_eq_true rfl⟩ ?_
      rw [show i = l.length by omega] at et
      exact k h1 x1 et
    · exact absurd c1 (by omega)
  | succ d ih =>
    intro i h1 hi x1 ea eb et z
    have gb := gd_sum l i
    have tb := tlN_le l i (l.getD i 0)
    refine ok_iload_n dX3_tallyInto_7 rfl ?_
    refine ok_aload_n dX3_tallyInto_8 rfl rfl ?_
    refine ok_get dX3_tallyInto_9 fl_X3_15 (by assumption) (by rfl) ?_
    refine okN_icmp_ge (tgt := 41) dX3_tallyInto_12 (by decide) (by omega) (by omega) (fun c1 => ?_) (fun c1 => ?_)
    · exact absurd c1 (by omega)
    · refine ok_aload_n dX3_tallyInto_15 rfl rfl ?_
      refine ok_get dX3_tallyInto_16 fl_X3_9 (by assumption) (by rfl) ?_
      refine ok_iload_n dX3_tallyInto_19 rfl ?_
      first | refine okN_iald dX3_tallyInto_20 (by assumption) (by omega) (by decide) ?_ | refine okN_kald dX3_tallyInto_20 (by assumption) (by omega) (by decide) ?_
      rw [hF i c1]
      refine ok_istore_n dX3_tallyInto_21 (st_4_3 rfl) (Nat.le_of_ble_eq_true rfl) ?_
      refine ok_iload_n dX3_tallyInto_22 rfl ?_
      refine ok_aload_n dX3_tallyInto_23 rfl rfl ?_
      first | refine okN_alen dX3_tallyInto_24 (by assumption) ?_ | refine okJ_alen dX3_tallyInto_24 (by assumption) ?_
      refine okN_icmp_ge (tgt := 35) dX3_tallyInto_25 (by decide) (by omega) (by omega) (fun c2 => ?_) (fun c2 => ?_)
      · exact absurd c2 (by omega)
      · refine ok_aload_n dX3_tallyInto_28 rfl rfl ?_
        refine ok_iload_n dX3_tallyInto_29 rfl ?_
        refine ok_dup2 dX3_tallyInto_30 rfl rfl ?_
        first | refine okN_iald dX3_tallyInto_31 (by assumption) (by omega) (by decide) ?_ | refine okN_kald dX3_tallyInto_31 (by assumption) (by omega) (by decide) ?_
        refine ok_iconst (v := nI 1) dX3_tallyInto_32 (by decide) ?_
        first | refine okN_iadd dX3_tallyInto_33 ?_ | refine ok_iadd dX3_tallyInto_33 ?_
        first | refine okN_iast dX3_tallyInto_34 (by assumption) (by omega) (by decide) (fun h2 hx2 he2 => ?_) | refine okN_kast dX3_tallyInto_34 (by assumption) (by omega) (by decide) (fun h2 hx2 he2 => ?_)
        refine okN_inc dX3_tallyInto_35 rfl (st_4_2 rfl) (Nat.le_of_ble_eq_true rfl) ?_
        refine ok_goto (tgt := 7) dX3_tallyInto_38 (by decide) ?_
        exact ih (i + 1) h2 (by omega) (x1.tr' hx2) (hx2.at (by simp [Ne.symm hta]) ea) (hx2.at (by simp [Ne.symm htb]) eb) he2 _
theorem c_X3_tallyInto {t : Nat} {G : Nat → Nat} (r : Rw h a b l) (hta : t ≠ a) (htb : t ≠ b) (hl : okl l) (et : hc h t = some (aI 20 G)) (k : ∀ h', hx [t] h h' → hc h' t = some (aI 20 (tlN l l.length)) → Q none h') : Ok g MX3_tallyInto (m_J g MX3_tallyInto Q) 0 [some (.ref a), some (.ref t), none, none] [] h 0 0 := by
  obtain ⟨ea, F, eb, hF⟩ := r
  refine ok_aload_n dX3_tallyInto_0 rfl rfl ?_
  refine ok_iconst (v := nI 0) dX3_tallyInto_1 (by decide) ?_
  refine call_J7_fill_53178 dX3_tallyInto_2 lk_X3_37 ⟨Nat.le_of_ble_eq_true rfl, Nat.le_of_ble_eq_true rfl, Nat.le_of_ble_eq_true rfl⟩ (Nat.le_of_ble_eq_true rfl) ?_
  refine c_J7_fillI et (by decide) (fun h1 x1 e1 => ?_)
  refine ok_iconst (v := nI 0) dX3_tallyInto_5 (by decide) ?_
  refine ok_istore_n dX3_tallyInto_6 (st_4_2 rfl) (Nat.le_of_ble_eq_true rfl) ?_
  exact l_X3_tallyInto hta htb hF hl k l.length 0 h1 (by omega) x1 (x1.at (by simp [Ne.symm hta]) ea) (x1.at (by simp [Ne.symm htb]) eb) e1 _
theorem l_X3_digestOnto {s : Int64} (ea : hc h a = some (rowc b l.length l.sum)) (eb : hc h b = some (aI 18 F)) (hF : arr F l) (hl : okl l) (k : Q (some (.long (dgN l s l.length))) h) :
    ∀ (d i : Nat), i + d = l.length → Ok g MX3_digestOnto (m_J g MX3_digestOnto Q) 15 [some (.ref a), some (.long s), none, some (.long (dgN l s i)), none, some (.int (nI i))] [] h 0 0 := by
  have hlen := hl.len
  have gs := hl.2.2
  intro d
  induction d with
  | zero =>
    intro i hi
    refine ok_iload dX3_digestOnto_15 rfl ?_
    refine ok_aload_n dX3_digestOnto_17 rfl rfl ?_
    refine ok_get dX3_digestOnto_18 fl_X3_15 (by assumption) (by rfl) ?_
    refine okN_icmp_ge (tgt := 45) dX3_digestOnto_21 (by decide) (by omega) (by omega) (fun c1 => ?_) (fun c1 => ?_)
    · refine ok_lload_n dX3_digestOnto_45 rfl ?_
      refine ok_lret dX3_digestOnto_46 rfl ⟨Nat.le_of_ble_eq_true rfl, Nat.le_of_ble_eq_true rfl⟩ ?_
      rw [show i = l.length by omega]
      exact k
    · exact absurd c1 (by omega)
  | succ d ih =>
    intro i hi
    have gb := gd_sum l i
    refine ok_iload dX3_digestOnto_15 rfl ?_
    refine ok_aload_n dX3_digestOnto_17 rfl rfl ?_
    refine ok_get dX3_digestOnto_18 fl_X3_15 (by assumption) (by rfl) ?_
    refine okN_icmp_ge (tgt := 45) dX3_digestOnto_21 (by decide) (by omega) (by omega) (fun c1 => ?_) (fun c1 => ?_)
    · exact absurd c1 (by omega)
    · refine ok_ldc2 dX3_digestOnto_24 kl_X3_43 ?_
      refine ok_lload_n dX3_digestOnto_27 rfl ?_
      refine ok_lmul dX3_digestOnto_28 ?_
      refine ok_aload_n dX3_digestOnto_29 rfl rfl ?_
      refine ok_get dX3_digestOnto_30 fl_X3_9 (by assumption) (by rfl) ?_
      refine ok_iload dX3_digestOnto_33 rfl ?_
      first | refine okN_iald dX3_digestOnto_35 (by assumption) (by omega) (by decide) ?_ | refine okN_kald dX3_digestOnto_35 (by assumption) (by omega) (by decide) ?_
      rw [hF i c1]
      refine ok_i2l dX3_digestOnto_36 ?_
      rw [nI_l (by omega)]
      refine ok_ladd dX3_digestOnto_37 ?_
      refine ok_lstore_n dX3_digestOnto_38 (st2_6_3 rfl) (Nat.le_of_ble_eq_true rfl) ?_
      refine okN_inc dX3_digestOnto_39 rfl (st_6_5 rfl) (Nat.le_of_ble_eq_true rfl) ?_
      refine ok_goto (tgt := 15) dX3_digestOnto_42 (by decide) ?_
      exact ih (i + 1) (by omega)
theorem c_X3_digestOnto {s : Int64} (r : Rw h a b l) (hl : okl l) (k : Q (some (.long (dgN l s l.length))) h) : Ok g MX3_digestOnto (m_J g MX3_digestOnto Q) 0 [some (.ref a), some (.long s), none, none, none, none] [] h 0 0 := by
  obtain ⟨ea, F, eb, hF⟩ := r
  have hlen := hl.len
  refine ok_ldc2 dX3_digestOnto_0 kl_X3_43 ?_
  refine ok_lload_n dX3_digestOnto_3 rfl ?_
  refine ok_lmul dX3_digestOnto_4 ?_
  refine ok_aload_n dX3_digestOnto_5 rfl rfl ?_
  refine ok_get dX3_digestOnto_6 fl_X3_15 (by assumption) (by rfl) ?_
  refine ok_i2l dX3_digestOnto_9 ?_
  rw [nI_l (by omega)]
  refine ok_ladd dX3_digestOnto_10 ?_
  refine ok_lstore_n dX3_digestOnto_11 (st2_6_3 rfl) (Nat.le_of_ble_eq_true rfl) ?_
  refine ok_iconst (v := nI 0) dX3_digestOnto_12 (by decide) ?_
  refine ok_istore dX3_digestOnto_13 (st_6_5 rfl) (Nat.le_of_ble_eq_true rfl) ?_
  exact l_X3_digestOnto ea eb hF hl k l.length 0 (by omega)
theorem l_X3_putPart {sa sb f m : Nat} {ls : List Nat} (hab : a ≠ b) (h1a : sa ≠ a) (h1b : sa ≠ b) (h2a : sb ≠ a) (h2b : sb ≠ b) (hls : okl ls) (hf : f + m ≤ ls.length) (hs : ∀ i, i ≤ m → okl (ppN ls f l i)) (k : ∀ h', hx [a, b] h h' → Rw h' a b (ppN ls f l m) → Q none h') :
    ∀ (d i : Nat) (h1 : mH), i + d = m → hx [a, b] h h1 → Rw h1 a b (ppN ls f l i) → Rw h1 sa sb ls → Ok g MX3_putPart (m_J g MX3_putPart Q) 3 [some (.ref a), some (.ref sa), some (.int (nI f)), some (.int (nI m)), some (.int (nI i))] [] h1 0 0 := by
  have hlen := hls.len
  intro d
  induction d with
  | zero =>
    intro i h1 hi x1 r1 r2
    refine ok_iload dX3_putPart_3 rfl ?_
    refine ok_iload_n dX3_putPart_5 rfl ?_
    refine okN_icmp_ge (tgt := 27) dX3_putPart_6 (by decide) (by omega) (by omega) (fun c1 => ?_) (fun c1 => ?_)
    · refine ok_vret dX3_putPart_27 rfl ⟨Nat.le_of_ble_eq_true rfl, Nat.le_of_ble_eq_true rfl⟩ ?_
      rw [show i = m by omega] at r1
      exact k h1 x1 r1
    · exact absurd c1 (by omega)
  | succ d ih =>
    intro i h1 hi x1 r1 r2
    obtain ⟨ea, F, eb, hF⟩ := id r2
    have er := r1.1
    refine ok_iload dX3_putPart_3 rfl ?_
    refine ok_iload_n dX3_putPart_5 rfl ?_
    refine okN_icmp_ge (tgt := 27) dX3_putPart_6 (by decide) (by omega) (by omega) (fun c1 => ?_) (fun c1 => ?_)
    · exact absurd c1 (by omega)
    · refine ok_aload_n dX3_putPart_9 rfl rfl ?_
      refine ok_aload_n dX3_putPart_10 rfl rfl ?_
      refine ok_iload_n dX3_putPart_11 rfl ?_
      refine ok_iload dX3_putPart_12 rfl ?_
      first | refine okN_iadd dX3_putPart_14 ?_ | refine ok_iadd dX3_putPart_14 ?_
      refine call_X3_heapAt dX3_putPart_15 lk_X3_26 ⟨Nat.le_of_ble_eq_true rfl, Nat.le_of_ble_eq_true rfl, Nat.le_of_ble_eq_true rfl⟩ (by assumption) (Nat.le_of_ble_eq_true rfl) ?_
      have hp1 : 1 ≤ ls.getD (f + i) 0 := hls.2.1 _ (gd_mem ls (f + i) (by omega))
      have hs1 : (ls.getD (f + i) 0) + (ppN ls f l i).sum ≤ 18 := by
        have := (hs (i + 1) (by omega)).2.2
        unfold ppN at this
        rw [ins_sum] at this
        exact this
      refine c_X3_heapAt ea eb (by omega) (fun j e1 e2 e3 => ?_) (fun e => absurd e (by rw [pl_nI (by omega) (by omega)]; simp))
      have e4 : f + i = j := (nI_eq (by omega) (by omega)).mp e3
      subst e4
      rw [hF _ e2]
      refine call_X3_put dX3_putPart_18 lk_X3_30 ⟨Nat.le_of_ble_eq_true rfl, Nat.le_of_ble_eq_true rfl, Nat.le_of_ble_eq_true rfl⟩ (by assumption) (Nat.le_of_ble_eq_true rfl) ?_
      refine c_X3_put r1 hab (hs i (by omega)) hp1 hs1 (fun h2 x2 r3 => ?_)
      refine okN_inc dX3_putPart_21 rfl (st_5_4 rfl) (Nat.le_of_ble_eq_true rfl) ?_
      refine ok_goto (tgt := 3) dX3_putPart_24 (by decide) ?_
      exact ih (i + 1) h2 (by omega) (x1.tr' x2) r3 (r2.at x2 (by simp [h1a, h1b]) (by simp [h2a, h2b]))
theorem c_X3_putPart {sa sb f m : Nat} {ls : List Nat} (r1 : Rw h a b l) (r2 : Rw h sa sb ls) (hab : a ≠ b) (h1a : sa ≠ a) (h1b : sa ≠ b) (h2a : sb ≠ a) (h2b : sb ≠ b) (hls : okl ls) (hf : f + m ≤ ls.length) (hs : ∀ i, i ≤ m → okl (ppN ls f l i)) (k : ∀ h', hx [a, b] h h' → Rw h' a b (ppN ls f l m) → Q none h') :
    Ok g MX3_putPart (m_J g MX3_putPart Q) 0 [some (.ref a), some (.ref sa), some (.int (nI f)), some (.int (nI m)), none] [] h 0 0 := by
  refine ok_iconst (v := nI 0) dX3_putPart_0 (by decide) ?_
  refine ok_istore dX3_putPart_1 (st_5_4 rfl) (Nat.le_of_ble_eq_true rfl) ?_
  exact l_X3_putPart hab h1a h1b h2a h2b hls hf hs k m 0 h (by omega) hx.rf r1 r2
end ROW3
