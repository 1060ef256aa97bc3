/-! ===== a STEP by each RULE ===== -/
def put0 (m : Nat) (l : List Nat) : List Nat := if m = 0 then l else ins m l
def mn (x y : Nat) : Nat := if y < x then y else x
def geN (q : Nat) (ls : List Nat) : Nat → List Nat × Nat
  | 0 => ([], 0)
  | i + 1 => (put0 (ls.getD i 0 - mn q (ls.getD i 0)) (geN q ls i).1, (geN q ls i).2 + mn q (ls.getD i 0))
def ge (q : Nat) (ls : List Nat) : List Nat := put0 (geN q ls ls.length).2 (geN q ls ls.length).1
def gg (ls : List Nat) : List Nat := if ls.length = 0 then [] else ins 1 (ppN ls 1 (put0 (ls.getD 0 0 - 1) []) (ls.length - 1))
def glN (ls : List Nat) (f : Nat) : Nat → List Nat × Nat
  | 0 => ([], f)
  | i + 1 => (ins (ls.getD i 0 + (if (glN ls f i).2 = 0 then 0 else 1)) (glN ls f i).1, (glN ls f i).2 - (if (glN ls f i).2 = 0 then 0 else 1))
def gl (ls : List Nat) : List Nat := put0 (glN ls (ls.getD (ls.length - 1) 0) (ls.length - 1)).2 (glN ls (ls.getD (ls.length - 1) 0) (ls.length - 1)).1
def stp (r : Nat) (ls : List Nat) : List Nat := if r = 1 then gg ls else if r = 2 then ge 2 ls else if r = 3 then gl ls else ge 1 ls
theorem put0_sum (m : Nat) (l : List Nat) : (put0 m l).sum = m + l.sum := by
  unfold put0
  split
  · omega
  · exact ins_sum m l
theorem okl_put0 {m : Nat} {l : List Nat} (h : okl l) (hs : m + l.sum ≤ 18) : okl (put0 m l) := by
  unfold put0
  split
  · exact h
  · exact okl_ins h (by omega) hs
theorem mn_le (x y : Nat) : mn x y ≤ y := by
  unfold mn
  split <;> omega
def tsum (ls : List Nat) (i : Nat) : Nat := (ls.take i).sum
theorem tsum_succ : ∀ (ls : List Nat) (i : Nat), i < ls.length → tsum ls (i + 1) = tsum ls i + ls.getD i 0
  | [], i, h => by simp at h
  | x :: t, 0, h => by simp [tsum]
  | x :: t, i + 1, h => by
    have := tsum_succ t i (by simpa using h)
    unfold tsum at this ⊢
    rw [List.take_succ_cons, List.sum_cons, this, List.take_succ_cons, List.sum_cons, List.getD_cons_succ]
    omega
theorem tsum_len (ls : List Nat) : tsum ls ls.length = ls.sum := by simp [tsum]
theorem tsum_0 (ls : List Nat) : tsum ls 0 = 0 := by simp [tsum]
theorem tsum_le : ∀ (ls : List Nat) (i : Nat), tsum ls i ≤ ls.sum
  | [], i => by simp [tsum]
  | x :: t, 0 => by simp [tsum]
  | x :: t, i + 1 => by
    have := tsum_le t i
    unfold tsum at this ⊢
    rw [List.take_succ_cons, List.sum_cons, List.sum_cons]
    omega
theorem geN_inv (q : Nat) {ls : List Nat} (hls : okl ls) : ∀ i, i ≤ ls.length → okl (geN q ls i).1 ∧ (geN q ls i).1.sum + (geN q ls i).2 = tsum ls i
  | 0, _ => ⟨okl_nil, by simp [geN, tsum]⟩
  | i + 1, hi => by
    obtain ⟨e1, e2⟩ := geN_inv q hls i (by omega)
    have ts := tsum_succ ls i (by omega)
    have tl := tsum_le ls (i + 1)
    have m1 := mn_le q (ls.getD i 0)
    have hs := hls.2.2
    refine ⟨okl_put0 e1 (by omega), ?_⟩
    show (put0 _ _).sum + ((geN q ls i).2 + _) = _
    rw [put0_sum]
    omega
theorem glN_inv {ls : List Nat} (hls : okl ls) (f : Nat) : ∀ i, i ≤ ls.length → f + tsum ls i ≤ 18 → okl (glN ls f i).1 ∧ (glN ls f i).1.sum + (glN ls f i).2 = f + tsum ls i
  | 0, _, _ => ⟨okl_nil, by simp [glN, tsum]⟩
  | i + 1, hi, hf => by
    have ts := tsum_succ ls i (by omega)
    obtain ⟨e1, e2⟩ := glN_inv hls f i (by omega) (by omega)
    have hp := hls.2.1 _ (gd_mem ls i (by omega))
    have key : (ls.getD i 0 + (if (glN ls f i).2 = 0 then 0 else 1)) + (glN ls f i).1.sum ≤ 18 := by split <;> omega
    refine ⟨okl_ins e1 (by omega) key, ?_⟩
    show (ins _ _).sum + ((glN ls f i).2 - _) = _
    rw [ins_sum]
    split <;> omega
section STEPS
variable {g : mG} {h : mH} {Q : Option Value → mH → Prop} {a b sa sb : Nat} {l ls : List Nat}
theorem c_X3_putZ {m : Nat} (r : Rw h a b l) (hab : a ≠ b) (hl : okl l) (hs : m + l.sum ≤ 18) (k : ∀ h', hx [a, b] h h' → Rw h' a b (put0 m l) → Q none h') : Ok g MX3_put (m_J g MX3_put Q) 0 [some (.ref a), some (.int (nI m)), none] [] h 0 0 := by
  unfold put0 at k
  by_cases c : m = 0
  · subst c
    rw [if_pos rfl] at k
    exact c_X3_put0 (k h hx.rf r)
  · rw [if_neg c] at k
    exact c_X3_put r hab hl (by omega) hs k
theorem c_X3_heapN {i : Nat} (r : Rw h a b l) (hl : okl l) (hi : i < l.length) (k : Q (some (.int (nI (l.getD i 0)))) h) : Ok g MX3_heapAt (m_J g MX3_heapAt Q) 0 [some (.ref a), some (.int (nI i))] [] h 0 0 := by
  obtain ⟨ea, F, eb, hF⟩ := r
  have hlen := hl.len
  refine c_X3_heapAt ea eb (by omega) (fun j q1 q2 q3 => ?_) (fun q => absurd q (by rw [pl_nI (by omega) (by omega)]; simp))
  have e4 : i = j := (nI_eq (by omega) (by omega)).mp q3
  subst e4
  rw [hF _ q2]
  exact k
theorem l_X4_giveFromEach {q : Nat} (hq : q < 2 ^ 31) (hab : a ≠ b) (h1a : sa ≠ a) (h1b : sa ≠ b) (h2a : sb ≠ a) (h2b : sb ≠ b) (hls : okl ls) (k : ∀ h', hx [a, b] h h' → Rw h' a b (ge q ls) → okl (ge q ls) → Q none h') :
    ∀ (d i : Nat) (h1 : mH) (z : Option Value), i + d = ls.length → hx [a, b] h h1 → Rw h1 sa sb ls → Rw h1 a b (geN q ls i).1 → Ok g MX4_giveFromEach (m_J g MX4_giveFromEach Q) 5 [some (.ref a), some (.ref sa), some (.int (nI q)), some (.int (nI (geN q ls i).2)), some (.int (nI i)), z] [] h1 0 0 := by
  have hlen := hls.len
  have hss := hls.2.2
  intro d
  induction d with
  | zero =>
    intro i h1 z hi x1 r2 r1
    have es := r2.1
    have er := r1.1
    obtain ⟨e1, e2⟩ := geN_inv q hls i (by omega)
    have tl := tsum_le ls i
    refine ok_iload dX4_giveFromEach_5 rfl ?_
    refine ok_aload_n dX4_giveFromEach_7 rfl rfl ?_
    refine ok_get dX4_giveFromEach_8 fl_X4_73 (by assumption) (by rfl) ?_
    refine okN_icmp_ge (tgt := 50) dX4_giveFromEach_11 (by decide) (by omega) (by omega) (fun c1 => ?_) (fun c1 => ?_)
    · refine ok_aload_n dX4_giveFromEach_50 rfl rfl ?_
      refine ok_iload_n dX4_giveFromEach_51 rfl ?_
      refine call_X3_put dX4_giveFromEach_52 lk_X4_69 ⟨Nat.le_of_ble_eq_true rfl, Nat.le_of_ble_eq_true rfl, Nat.le_of_ble_eq_true rfl⟩ (by assumption) (Nat.le_of_ble_eq_true rfl) ?_
      refine c_X3_putZ r1 hab e1 (by omega) (fun h2 x2 r3 => ?_)
      refine ok_vret dX4_giveFromEach_55 rfl ⟨Nat.le_of_ble_eq_true rfl, Nat.le_of_ble_eq_true rfl⟩ ?_
      have ei : i = ls.length := by omega
      subst ei
      exact k h2 (x1.tr' x2) r3 (okl_put0 e1 (by omega))
    · exact absurd c1 (by omega)
  | succ d ih =>
    intro i h1 z hi x1 r2 r1
    have es := r2.1
    have er := r1.1
    obtain ⟨e1, e2⟩ := geN_inv q hls i (by omega)
    have ts := tsum_succ ls i (by omega)
    have tl := tsum_le ls (i + 1)
    have gb := gd_sum ls i
    have ml := mn_le q (ls.getD i 0)
    refine ok_iload dX4_giveFromEach_5 rfl ?_
    refine ok_aload_n dX4_giveFromEach_7 rfl rfl ?_
    refine ok_get dX4_giveFromEach_8 fl_X4_73 (by assumption) (by rfl) ?_
    refine okN_icmp_ge (tgt := 50) dX4_giveFromEach_11 (by decide) (by omega) (by omega) (fun c1 => ?_) (fun c1 => ?_)
    · exact absurd c1 (by omega)
    · refine ok_iload_n dX4_giveFromEach_14 rfl ?_
      refine ok_aload_n dX4_giveFromEach_15 rfl rfl ?_
      refine ok_iload dX4_giveFromEach_16 rfl ?_
      refine call_X3_heapAt dX4_giveFromEach_18 lk_X4_80 ⟨Nat.le_of_ble_eq_true rfl, Nat.le_of_ble_eq_true rfl, Nat.le_of_ble_eq_true rfl⟩ (by assumption) (Nat.le_of_ble_eq_true rfl) ?_
      refine c_X3_heapN r2 hls c1 ?_
      refine okN_min dX4_giveFromEach_21 mmin_X4_221 (Nat.le_of_ble_eq_true rfl) ⟨Nat.le_of_ble_eq_true rfl, Nat.le_of_ble_eq_true rfl⟩ (Nat.le_of_ble_eq_true rfl) (by omega) (by omega) ?_
      rw [show (if ls.getD i 0 < q then ls.getD i 0 else q) = mn q (ls.getD i 0) from rfl]
      refine ok_istore dX4_giveFromEach_24 (st_6_5 rfl) (Nat.le_of_ble_eq_true rfl) ?_
      refine ok_aload_n dX4_giveFromEach_26 rfl rfl ?_
      refine ok_aload_n dX4_giveFromEach_27 rfl rfl ?_
      refine ok_iload dX4_giveFromEach_28 rfl ?_
      refine call_X3_heapAt dX4_giveFromEach_30 lk_X4_80 ⟨Nat.le_of_ble_eq_true rfl, Nat.le_of_ble_eq_true rfl, Nat.le_of_ble_eq_true rfl⟩ (by assumption) (Nat.le_of_ble_eq_true rfl) ?_
      refine c_X3_heapN r2 hls c1 ?_
      refine ok_iload dX4_giveFromEach_33 rfl ?_
      first | refine okN_isub dX4_giveFromEach_35 (by omega) ?_ | refine ok_isub dX4_giveFromEach_35 ?_
      refine call_X3_put dX4_giveFromEach_36 lk_X4_69 ⟨Nat.le_of_ble_eq_true rfl, Nat.le_of_ble_eq_true rfl, Nat.le_of_ble_eq_true rfl⟩ (by assumption) (Nat.le_of_ble_eq_true rfl) ?_
      refine c_X3_putZ r1 hab e1 (by omega) (fun h2 x2 r3 => ?_)
      refine ok_iload_n dX4_giveFromEach_39 rfl ?_
      refine ok_iload dX4_giveFromEach_40 rfl ?_
      first | refine okN_iadd dX4_giveFromEach_42 ?_ | refine ok_iadd dX4_giveFromEach_42 ?_
      refine ok_istore_n dX4_giveFromEach_43 (st_6_3 rfl) (Nat.le_of_ble_eq_true rfl) ?_
      refine okN_inc dX4_giveFromEach_44 rfl (st_6_4 rfl) (Nat.le_of_ble_eq_true rfl) ?_
      refine ok_goto (tgt := 5) dX4_giveFromEach_47 (by decide) ?_
      exact ih (i + 1) h2 _ (by omega) (x1.tr' x2) (r2.at x2 (by simp [h1a, h1b]) (by simp [h2a, h2b])) r3
theorem c_X4_giveFromEach {q : Nat} (r2 : Rw h sa sb ls) (r1 : Rw h a b []) (hq : q < 2 ^ 31) (hab : a ≠ b) (h1a : sa ≠ a) (h1b : sa ≠ b) (h2a : sb ≠ a) (h2b : sb ≠ b) (hls : okl ls) (k : ∀ h', hx [a, b] h h' → Rw h' a b (ge q ls) → okl (ge q ls) → Q none h') :
    Ok g MX4_giveFromEach (m_J g MX4_giveFromEach Q) 0 [some (.ref a), some (.ref sa), some (.int (nI q)), none, none, none] [] h 0 0 := by
  refine ok_iconst (v := nI 0) dX4_giveFromEach_0 (by decide) ?_
  refine ok_istore_n dX4_giveFromEach_1 (st_6_3 rfl) (Nat.le_of_ble_eq_true rfl) ?_
  refine ok_iconst (v := nI 0) dX4_giveFromEach_2 (by decide) ?_
  refine ok_istore dX4_giveFromEach_3 (st_6_4 rfl) (Nat.le_of_ble_eq_true rfl) ?_
  exact l_X4_giveFromEach (h := h) hq hab h1a h1b h2a h2b hls k ls.length 0 h _ (by omega) hx.rf r2 r1
theorem ppN_inv {ls l : List Nat} (hls : okl ls) (hl : okl l) (f : Nat) : ∀ i, f + i ≤ ls.length → l.sum + (tsum ls (f + i) - tsum ls f) ≤ 18 → okl (ppN ls f l i) ∧ (ppN ls f l i).sum = l.sum + (tsum ls (f + i) - tsum ls f)
  | 0, _, _ => ⟨hl, by simp [ppN]⟩
  | i + 1, hi, hf => by
    have ts := tsum_succ ls (f + i) (by omega)
    have mono : ∀ j, f + j ≤ ls.length → tsum ls f ≤ tsum ls (f + j) := by
      intro j
      induction j with
      | zero => intro _; exact Nat.le_refl _
      | succ j ih => intro hj; have := tsum_succ ls (f + j) (by omega); have := ih (by omega); rw [show f + (j + 1) = f + j + 1 by omega]; omega
    have m1 := mono i (by omega)
    rw [show f + (i + 1) = f + i + 1 by omega] at hf ⊢
    obtain ⟨e1, e2⟩ := ppN_inv hls hl f i (by omega) (by omega)
    have hp := hls.2.1 _ (gd_mem ls (f + i) (by omega))
    refine ⟨okl_ins e1 hp (by omega), ?_⟩
    show (ins _ _).sum = _
    rw [ins_sum]
    omega
theorem gg_ok {ls : List Nat} (hls : okl ls) (h0 : 0 < ls.length) : (∀ i, i ≤ ls.length - 1 → okl (ppN ls 1 (put0 (ls.getD 0 0 - 1) []) i)) ∧ (ppN ls 1 (put0 (ls.getD 0 0 - 1) []) (ls.length - 1)).sum + 1 = ls.sum ∧ okl (put0 (ls.getD 0 0 - 1) []) := by
  have hp := hls.2.1 _ (gd_mem ls 0 h0)
  have t1 := tsum_succ ls 0 h0
  rw [Nat.zero_add] at t1
  have t0 := tsum_0 ls
  have tl := tsum_len ls
  have hs := hls.2.2
  have g0 := gd_sum ls 0
  have hk : okl (put0 (ls.getD 0 0 - 1) []) := okl_put0 okl_nil (by rw [List.sum_nil]; omega)
  have ss : (put0 (ls.getD 0 0 - 1) []).sum = ls.getD 0 0 - 1 := by rw [put0_sum, List.sum_nil, Nat.add_zero]
  have all : ∀ i, 1 + i ≤ ls.length → okl (ppN ls 1 (put0 (ls.getD 0 0 - 1) []) i) ∧ (ppN ls 1 (put0 (ls.getD 0 0 - 1) []) i).sum = (ls.getD 0 0 - 1) + (tsum ls (1 + i) - tsum ls 1) := by
    intro i hi
    have tl2 := tsum_le ls (1 + i)
    have := ppN_inv hls hk 1 i hi (by rw [ss]; omega)
    rw [ss] at this
    exact this
  refine ⟨fun i hi => (all i (by omega)).1, ?_, hk⟩
  rw [(all (ls.length - 1) (by omega)).2, show 1 + (ls.length - 1) = ls.length by omega]
  have := tsum_le ls 1
  omega
theorem c_X4_giveFromGreatest (r2 : Rw h sa sb ls) (r1 : Rw h a b []) (hab : a ≠ b) (h1a : sa ≠ a) (h1b : sa ≠ b) (h2a : sb ≠ a) (h2b : sb ≠ b) (hls : okl ls) (k : ∀ h', hx [a, b] h h' → Rw h' a b (gg ls) → okl (gg ls) → Q none h') :
    Ok g MX4_giveFromGreatest (m_J g MX4_giveFromGreatest Q) 0 [some (.ref a), some (.ref sa)] [] h 0 0 := by
  have hlen := hls.len
  have hss := hls.2.2
  have es := r2.1
  have er := r1.1
  have g0 := gd_sum ls 0
  unfold gg at k
  refine ok_aload_n dX4_giveFromGreatest_0 rfl rfl ?_
  refine ok_get dX4_giveFromGreatest_1 fl_X4_73 (by assumption) (by rfl) ?_
  refine okN_if_le (tgt := 35) dX4_giveFromGreatest_4 (by decide) (by omega) (fun c1 => ?_) (fun c1 => ?_)
  · rw [if_pos c1] at k
    refine ok_vret dX4_giveFromGreatest_35 rfl ⟨Nat.le_of_ble_eq_true rfl, Nat.le_of_ble_eq_true rfl⟩ ?_
    exact k h hx.rf r1 okl_nil
  · rw [if_neg (by omega)] at k
    obtain ⟨w1, w2, w3⟩ := gg_ok hls c1
    have hp := hls.2.1 _ (gd_mem ls 0 c1)
    refine ok_aload_n dX4_giveFromGreatest_7 rfl rfl ?_
    refine ok_aload_n dX4_giveFromGreatest_8 rfl rfl ?_
    refine ok_iconst (v := nI 0) dX4_giveFromGreatest_9 (by decide) ?_
    refine call_X3_heapAt dX4_giveFromGreatest_10 lk_X4_80 ⟨Nat.le_of_ble_eq_true rfl, Nat.le_of_ble_eq_true rfl, Nat.le_of_ble_eq_true rfl⟩ (by assumption) (Nat.le_of_ble_eq_true rfl) ?_
    refine c_X3_heapN r2 hls c1 ?_
    refine ok_iconst (v := nI 1) dX4_giveFromGreatest_13 (by decide) ?_
    first | refine okN_isub dX4_giveFromGreatest_14 (by omega) ?_ | refine ok_isub dX4_giveFromGreatest_14 ?_
    refine call_X3_put dX4_giveFromGreatest_15 lk_X4_69 ⟨Nat.le_of_ble_eq_true rfl, Nat.le_of_ble_eq_true rfl, Nat.le_of_ble_eq_true rfl⟩ (by assumption) (Nat.le_of_ble_eq_true rfl) ?_
    refine c_X3_putZ r1 hab okl_nil (by rw [List.sum_nil]; omega) (fun h2 x2 r3 => ?_)
    have r4 := r2.at x2 (by simp [h1a, h1b]) (by simp [h2a, h2b])
    have er3 := r3.1
    have es4 := r4.1
    refine ok_aload_n dX4_giveFromGreatest_18 rfl rfl ?_
    refine ok_aload_n dX4_giveFromGreatest_19 rfl rfl ?_
    refine ok_iconst (v := nI 1) dX4_giveFromGreatest_20 (by decide) ?_
    refine ok_aload_n dX4_giveFromGreatest_21 rfl rfl ?_
    refine ok_get dX4_giveFromGreatest_22 fl_X4_73 (by assumption) (by rfl) ?_
    refine ok_iconst (v := nI 1) dX4_giveFromGreatest_25 (by decide) ?_
    first | refine okN_isub dX4_giveFromGreatest_26 (by omega) ?_ | refine ok_isub dX4_giveFromGreatest_26 ?_
    refine call_X3_putPart dX4_giveFromGreatest_27 lk_X4_86 ⟨Nat.le_of_ble_eq_true rfl, Nat.le_of_ble_eq_true rfl, Nat.le_of_ble_eq_true rfl⟩ (by assumption) (Nat.le_of_ble_eq_true rfl) ?_
    refine c_X3_putPart r3 r4 hab h1a h1b h2a h2b hls (by omega) w1 (fun h5 x5 r5 => ?_)
    have er5 := r5.1
    refine ok_aload_n dX4_giveFromGreatest_30 rfl rfl ?_
    refine ok_iconst (v := nI 1) dX4_giveFromGreatest_31 (by decide) ?_
    refine call_X3_put dX4_giveFromGreatest_32 lk_X4_69 ⟨Nat.le_of_ble_eq_true rfl, Nat.le_of_ble_eq_true rfl, Nat.le_of_ble_eq_true rfl⟩ (by assumption) (Nat.le_of_ble_eq_true rfl) ?_
    have wl := w1 (ls.length - 1) (Nat.le_refl _)
    refine c_X3_put r5 hab wl (by omega) (by omega) (fun h6 x6 r6 => ?_)
    refine ok_vret dX4_giveFromGreatest_35 rfl ⟨Nat.le_of_ble_eq_true rfl, Nat.le_of_ble_eq_true rfl⟩ ?_
    exact k h6 ((x2.tr' x5).tr' x6) r6 (okl_ins wl (by omega) (by omega))
theorem l_X4_giveLeastAway {f n : Nat} (hn : n < ls.length) (hf : f + tsum ls n ≤ 18) (hab : a ≠ b) (h1a : sa ≠ a) (h1b : sa ≠ b) (h2a : sb ≠ a) (h2b : sb ≠ b) (hls : okl ls) (k : ∀ h', hx [a, b] h h' → Rw h' a b (put0 (glN ls f n).2 (glN ls f n).1) → okl (put0 (glN ls f n).2 (glN ls f n).1) → Q none h') :
    ∀ (d i : Nat) (h1 : mH) (z : Option Value), i + d = n → hx [a, b] h h1 → Rw h1 sa sb ls → Rw h1 a b (glN ls f i).1 → Ok g MX4_giveLeastAway (m_J g MX4_giveLeastAway Q) 16 [some (.ref a), some (.ref sa), some (.int (nI n)), some (.int (nI (glN ls f i).2)), some (.int (nI i)), z] [] h1 0 0 := by
  have hlen := hls.len
  have hss := hls.2.2
  have mono : ∀ j, j ≤ n → tsum ls j ≤ tsum ls n := by
    have : ∀ d j, j + d = n → tsum ls j ≤ tsum ls n := by
      intro d
      induction d with
      | zero => intro j hj; rw [show j = n by omega]; exact Nat.le_refl _
      | succ d ih => intro j hj; have := ih (j + 1) (by omega); have := tsum_succ ls j (by omega); omega
    exact fun j hj => this (n - j) j (by omega)
  intro d
  induction d with
  | zero =>
    intro i h1 z hi x1 r2 r1
    have es := r2.1
    have er := r1.1
    have ei : i = n := by omega
    subst ei
    obtain ⟨e1, e2⟩ := glN_inv hls f i (by omega) hf
    refine ok_iload dX4_giveLeastAway_16 rfl ?_
    refine ok_iload_n dX4_giveLeastAway_18 rfl ?_
    refine okN_icmp_ge (tgt := 57) dX4_giveLeastAway_19 (by decide) (by omega) (by omega) (fun c1 => ?_) (fun c1 => ?_)
    · refine ok_aload_n dX4_giveLeastAway_57 rfl rfl ?_
      refine ok_iload_n dX4_giveLeastAway_58 rfl ?_
      refine call_X3_put dX4_giveLeastAway_59 lk_X4_69 ⟨Nat.le_of_ble_eq_true rfl, Nat.le_of_ble_eq_true rfl, Nat.le_of_ble_eq_true rfl⟩ (by assumption) (Nat.le_of_ble_eq_true rfl) ?_
      refine c_X3_putZ r1 hab e1 (by omega) (fun h2 x2 r3 => ?_)
      refine ok_vret dX4_giveLeastAway_62 rfl ⟨Nat.le_of_ble_eq_true rfl, Nat.le_of_ble_eq_true rfl⟩ ?_
      exact k h2 (x1.tr' x2) r3 (okl_put0 e1 (by omega))
    · exact absurd c1 (by omega)
  | succ d ih =>
    intro i h1 z hi x1 r2 r1
    have es := r2.1
    have er := r1.1
    have m1 := mono (i + 1) (by omega)
    have ts := tsum_succ ls i (by omega)
    obtain ⟨e1, e2⟩ := glN_inv hls f i (by omega) (by omega)
    have hp := hls.2.1 _ (gd_mem ls i (by omega))
    have nx := ih (i + 1)
    unfold glN at nx
    dsimp only at nx
    refine ok_iload dX4_giveLeastAway_16 rfl ?_
    refine ok_iload_n dX4_giveLeastAway_18 rfl ?_
    refine okN_icmp_ge (tgt := 57) dX4_giveLeastAway_19 (by decide) (by omega) (by omega) (fun c1 => ?_) (fun c1 => ?_)
    · exact absurd c1 (by omega)
    · refine ok_iload_n dX4_giveLeastAway_22 rfl ?_
      refine okN_if_le (tgt := 30) dX4_giveLeastAway_23 (by decide) (by omega) (fun c2 => ?_) (fun c2 => ?_)
      · rw [if_pos c2] at nx
        refine ok_iconst (v := nI 0) dX4_giveLeastAway_30 (by decide) ?_
        refine ok_istore dX4_giveLeastAway_31 (st_6_5 rfl) (Nat.le_of_ble_eq_true rfl) ?_
        refine ok_aload_n dX4_giveLeastAway_33 rfl rfl ?_
        refine ok_aload_n dX4_giveLeastAway_34 rfl rfl ?_
        refine ok_iload dX4_giveLeastAway_35 rfl ?_
        refine call_X3_heapAt dX4_giveLeastAway_37 lk_X4_80 ⟨Nat.le_of_ble_eq_true rfl, Nat.le_of_ble_eq_true rfl, Nat.le_of_ble_eq_true rfl⟩ (by assumption) (Nat.le_of_ble_eq_true rfl) ?_
        refine c_X3_heapN r2 hls (by omega) ?_
        refine ok_iload dX4_giveLeastAway_40 rfl ?_
        first | refine okN_iadd dX4_giveLeastAway_42 ?_ | refine ok_iadd dX4_giveLeastAway_42 ?_
        refine call_X3_put dX4_giveLeastAway_43 lk_X4_69 ⟨Nat.le_of_ble_eq_true rfl, Nat.le_of_ble_eq_true rfl, Nat.le_of_ble_eq_true rfl⟩ (by assumption) (Nat.le_of_ble_eq_true rfl) ?_
        refine c_X3_put r1 hab e1 (by omega) (by omega) (fun h2 x2 r3 => ?_)
        refine ok_iload_n dX4_giveLeastAway_46 rfl ?_
        refine ok_iload dX4_giveLeastAway_47 rfl ?_
        first | refine okN_isub dX4_giveLeastAway_49 (by omega) ?_ | refine ok_isub dX4_giveLeastAway_49 ?_
        refine ok_istore_n dX4_giveLeastAway_50 (st_6_3 rfl) (Nat.le_of_ble_eq_true rfl) ?_
        refine okN_inc dX4_giveLeastAway_51 rfl (st_6_4 rfl) (Nat.le_of_ble_eq_true rfl) ?_
        refine ok_goto (tgt := 16) dX4_giveLeastAway_54 (by decide) ?_
        exact nx h2 _ (by omega) (x1.tr' x2) (r2.at x2 (by simp [h1a, h1b]) (by simp [h2a, h2b])) r3
      · rw [if_neg (by omega)] at nx
        refine ok_iconst (v := nI 1) dX4_giveLeastAway_26 (by decide) ?_
        refine ok_goto (tgt := 31) dX4_giveLeastAway_27 (by decide) ?_
        refine ok_istore dX4_giveLeastAway_31 (st_6_5 rfl) (Nat.le_of_ble_eq_true rfl) ?_
        refine ok_aload_n dX4_giveLeastAway_33 rfl rfl ?_
        refine ok_aload_n dX4_giveLeastAway_34 rfl rfl ?_
        refine ok_iload dX4_giveLeastAway_35 rfl ?_
        refine call_X3_heapAt dX4_giveLeastAway_37 lk_X4_80 ⟨Nat.le_of_ble_eq_true rfl, Nat.le_of_ble_eq_true rfl, Nat.le_of_ble_eq_true rfl⟩ (by assumption) (Nat.le_of_ble_eq_true rfl) ?_
        refine c_X3_heapN r2 hls (by omega) ?_
        refine ok_iload dX4_giveLeastAway_40 rfl ?_
        first | refine okN_iadd dX4_giveLeastAway_42 ?_ | refine ok_iadd dX4_giveLeastAway_42 ?_
        refine call_X3_put dX4_giveLeastAway_43 lk_X4_69 ⟨Nat.le_of_ble_eq_true rfl, Nat.le_of_ble_eq_true rfl, Nat.le_of_ble_eq_true rfl⟩ (by assumption) (Nat.le_of_ble_eq_true rfl) ?_
        refine c_X3_put r1 hab e1 (by omega) (by omega) (fun h2 x2 r3 => ?_)
        refine ok_iload_n dX4_giveLeastAway_46 rfl ?_
        refine ok_iload dX4_giveLeastAway_47 rfl ?_
        first | refine okN_isub dX4_giveLeastAway_49 (by omega) ?_ | refine ok_isub dX4_giveLeastAway_49 ?_
        refine ok_istore_n dX4_giveLeastAway_50 (st_6_3 rfl) (Nat.le_of_ble_eq_true rfl) ?_
        refine okN_inc dX4_giveLeastAway_51 rfl (st_6_4 rfl) (Nat.le_of_ble_eq_true rfl) ?_
        refine ok_goto (tgt := 16) dX4_giveLeastAway_54 (by decide) ?_
        exact nx h2 _ (by omega) (x1.tr' x2) (r2.at x2 (by simp [h1a, h1b]) (by simp [h2a, h2b])) r3
theorem c_X4_giveLeastAway (r2 : Rw h sa sb ls) (r1 : Rw h a b []) (hab : a ≠ b) (h1a : sa ≠ a) (h1b : sa ≠ b) (h2a : sb ≠ a) (h2b : sb ≠ b) (hls : okl ls) (k : ∀ h', hx [a, b] h h' → Rw h' a b (gl ls) → okl (gl ls) → Q none h') :
    Ok g MX4_giveLeastAway (m_J g MX4_giveLeastAway Q) 0 [some (.ref a), some (.ref sa), none, none, none, none] [] h 0 0 := by
  have hlen := hls.len
  have hss := hls.2.2
  have es := r2.1
  have er := r1.1
  by_cases c0 : ls.length = 0
  · have e0 : ls = [] := List.eq_nil_of_length_eq_zero c0
    subst e0
    obtain ⟨es', F, eb, hF⟩ := r2
    refine ok_aload_n dX4_giveLeastAway_0 rfl rfl ?_
    refine ok_get dX4_giveLeastAway_1 fl_X4_73 (by assumption) (by rfl) ?_
    refine ok_iconst (v := nI 1) dX4_giveLeastAway_4 (by decide) ?_
    first | refine okN_isub dX4_giveLeastAway_5 (by omega) ?_ | refine ok_isub dX4_giveLeastAway_5 ?_
    refine ok_istore_n dX4_giveLeastAway_6 (st_6_2 rfl) (Nat.le_of_ble_eq_true rfl) ?_
    refine ok_aload_n dX4_giveLeastAway_7 rfl rfl ?_
    refine ok_iload_n dX4_giveLeastAway_8 rfl ?_
    refine call_X3_heapAt dX4_giveLeastAway_9 lk_X4_80 ⟨Nat.le_of_ble_eq_true rfl, Nat.le_of_ble_eq_true rfl, Nat.le_of_ble_eq_true rfl⟩ (by assumption) (Nat.le_of_ble_eq_true rfl) ?_
    refine c_X3_heapAt es' eb (by simp) (fun j q1 q2 q3 => absurd q2 (by simp)) (fun _ => ?_)
    refine ok_istore_n dX4_giveLeastAway_12 (st_6_3 rfl) (Nat.le_of_ble_eq_true rfl) ?_
    refine ok_iconst (v := nI 0) dX4_giveLeastAway_13 (by decide) ?_
    refine ok_istore dX4_giveLeastAway_14 (st_6_4 rfl) (Nat.le_of_ble_eq_true rfl) ?_
    refine ok_iload dX4_giveLeastAway_16 rfl ?_
    refine ok_iload_n dX4_giveLeastAway_18 rfl ?_
    refine ok_icmp_ge (tgt := 57) dX4_giveLeastAway_19 (by decide) (fun c1 => ?_) (fun c1 => ?_)
    · refine ok_aload_n dX4_giveLeastAway_57 rfl rfl ?_
      refine ok_iload_n dX4_giveLeastAway_58 rfl ?_
      refine call_X3_put dX4_giveLeastAway_59 lk_X4_69 ⟨Nat.le_of_ble_eq_true rfl, Nat.le_of_ble_eq_true rfl, Nat.le_of_ble_eq_true rfl⟩ (by assumption) (Nat.le_of_ble_eq_true rfl) ?_
      refine c_X3_put0 ?_
      refine ok_vret dX4_giveLeastAway_62 rfl ⟨Nat.le_of_ble_eq_true rfl, Nat.le_of_ble_eq_true rfl⟩ ?_
      exact k h hx.rf r1 okl_nil
    · exact absurd c1 (by decide)
  · have t1 := tsum_succ ls (ls.length - 1) (by omega)
    have tl := tsum_len ls
    rw [show ls.length - 1 + 1 = ls.length by omega] at t1
    refine ok_aload_n dX4_giveLeastAway_0 rfl rfl ?_
    refine ok_get dX4_giveLeastAway_1 fl_X4_73 (by assumption) (by rfl) ?_
    refine ok_iconst (v := nI 1) dX4_giveLeastAway_4 (by decide) ?_
    first | refine okN_isub dX4_giveLeastAway_5 (by omega) ?_ | refine ok_isub dX4_giveLeastAway_5 ?_
    refine ok_istore_n dX4_giveLeastAway_6 (st_6_2 rfl) (Nat.le_of_ble_eq_true rfl) ?_
    refine ok_aload_n dX4_giveLeastAway_7 rfl rfl ?_
    refine ok_iload_n dX4_giveLeastAway_8 rfl ?_
    refine call_X3_heapAt dX4_giveLeastAway_9 lk_X4_80 ⟨Nat.le_of_ble_eq_true rfl, Nat.le_of_ble_eq_true rfl, Nat.le_of_ble_eq_true rfl⟩ (by assumption) (Nat.le_of_ble_eq_true rfl) ?_
    refine c_X3_heapN r2 hls (by omega) ?_
    refine ok_istore_n dX4_giveLeastAway_12 (st_6_3 rfl) (Nat.le_of_ble_eq_true rfl) ?_
    refine ok_iconst (v := nI 0) dX4_giveLeastAway_13 (by decide) ?_
    refine ok_istore dX4_giveLeastAway_14 (st_6_4 rfl) (Nat.le_of_ble_eq_true rfl) ?_
    exact l_X4_giveLeastAway (h := h) (by omega) (by omega) hab h1a h1b h2a h2b hls k (ls.length - 1) 0 h _ (by omega) hx.rf r2 r1
theorem c_X4_stepInto {r : Nat} (r2 : Rw h sa sb ls) (r1 : Rw h a b l) (hr : r < 4) (hab : a ≠ b) (h1a : sa ≠ a) (h1b : sa ≠ b) (h2a : sb ≠ a) (h2b : sb ≠ b) (hls : okl ls) (k : ∀ h', hx [a, b] h h' → Rw h' a b (stp r ls) → okl (stp r ls) → Q none h') :
    Ok g MX4_stepInto (m_J g MX4_stepInto Q) 0 [some (.ref a), some (.ref sa), some (.int (nI r))] [] h 0 0 := by
  obtain ⟨er, F, eb, hF⟩ := r1
  have es := r2.1
  unfold stp at k
  refine ok_aload_n dX4_stepInto_0 rfl rfl ?_
  refine call_X3_clear dX4_stepInto_1 lk_X4_55 ⟨Nat.le_of_ble_eq_true rfl, Nat.le_of_ble_eq_true rfl, Nat.le_of_ble_eq_true rfl⟩ (by assumption) (Nat.le_of_ble_eq_true rfl) ?_
  refine c_X3_clear er (fun h1 x1 e1 => ?_)
  have r3 : Rw h1 a b [] := ⟨e1, F, x1.at (by simp [Ne.symm hab]) eb, fun i hi => by simp at hi⟩
  have r4 := r2.at x1 (by simp [h1a]) (by simp [h2a])
  have x1' : hx [a, b] h h1 := x1.mono (by simp)
  refine ok_iload_n dX4_stepInto_4 rfl ?_
  rcases (show r = 0 ∨ r = 1 ∨ r = 2 ∨ r = 3 by omega) with rfl | rfl | rfl | rfl
  · refine ok_tableOut (tgt := 57) dX4_stepInto_5 (by decide) (by decide) ?_
    refine ok_aload_n dX4_stepInto_57 rfl rfl ?_
    refine ok_aload_n dX4_stepInto_58 rfl rfl ?_
    refine ok_iconst (v := nI 1) dX4_stepInto_59 (by decide) ?_
    refine call_X4_giveFromEach dX4_stepInto_60 lk_X4_215 ⟨Nat.le_of_ble_eq_true rfl, Nat.le_of_ble_eq_true rfl, Nat.le_of_ble_eq_true rfl⟩ (Nat.le_of_ble_eq_true rfl) ?_
    refine c_X4_giveFromEach r4 r3 (by decide) hab h1a h1b h2a h2b hls (fun h2 x2 r5 o5 => ?_)
    refine ok_vret dX4_stepInto_63 rfl ⟨Nat.le_of_ble_eq_true rfl, Nat.le_of_ble_eq_true rfl⟩ ?_
    exact k h2 (x1'.tr' x2) r5 o5
  · refine ok_tableIn (tgt := 32) (off := 27) dX4_stepInto_5 (by decide) (by decide) (by decide) (by decide) ?_
    refine ok_aload_n dX4_stepInto_32 rfl rfl ?_
    refine ok_aload_n dX4_stepInto_33 rfl rfl ?_
    refine call_X4_giveFromGreatest dX4_stepInto_34 lk_X4_211 ⟨Nat.le_of_ble_eq_true rfl, Nat.le_of_ble_eq_true rfl, Nat.le_of_ble_eq_true rfl⟩ (Nat.le_of_ble_eq_true rfl) ?_
    refine c_X4_giveFromGreatest r4 r3 hab h1a h1b h2a h2b hls (fun h2 x2 r5 o5 => ?_)
    refine ok_goto (tgt := 63) dX4_stepInto_37 (by decide) ?_
    refine ok_vret dX4_stepInto_63 rfl ⟨Nat.le_of_ble_eq_true rfl, Nat.le_of_ble_eq_true rfl⟩ ?_
    exact k h2 (x1'.tr' x2) r5 o5
  · refine ok_tableIn (tgt := 40) (off := 35) dX4_stepInto_5 (by decide) (by decide) (by decide) (by decide) ?_
    refine ok_aload_n dX4_stepInto_40 rfl rfl ?_
    refine ok_aload_n dX4_stepInto_41 rfl rfl ?_
    refine ok_iconst (v := nI 2) dX4_stepInto_42 (by decide) ?_
    refine call_X4_giveFromEach dX4_stepInto_43 lk_X4_215 ⟨Nat.le_of_ble_eq_true rfl, Nat.le_of_ble_eq_true rfl, Nat.le_of_ble_eq_true rfl⟩ (Nat.le_of_ble_eq_true rfl) ?_
    refine c_X4_giveFromEach r4 r3 (by decide) hab h1a h1b h2a h2b hls (fun h2 x2 r5 o5 => ?_)
    refine ok_goto (tgt := 63) dX4_stepInto_46 (by decide) ?_
    refine ok_vret dX4_stepInto_63 rfl ⟨Nat.le_of_ble_eq_true rfl, Nat.le_of_ble_eq_true rfl⟩ ?_
    exact k h2 (x1'.tr' x2) r5 o5
  · refine ok_tableIn (tgt := 49) (off := 44) dX4_stepInto_5 (by decide) (by decide) (by decide) (by decide) ?_
    refine ok_aload_n dX4_stepInto_49 rfl rfl ?_
    refine ok_aload_n dX4_stepInto_50 rfl rfl ?_
    refine call_X4_giveLeastAway dX4_stepInto_51 lk_X4_218 ⟨Nat.le_of_ble_eq_true rfl, Nat.le_of_ble_eq_true rfl, Nat.le_of_ble_eq_true rfl⟩ (Nat.le_of_ble_eq_true rfl) ?_
    refine c_X4_giveLeastAway r4 r3 hab h1a h1b h2a h2b hls (fun h2 x2 r5 o5 => ?_)
    refine ok_goto (tgt := 63) dX4_stepInto_54 (by decide) ?_
    refine ok_vret dX4_stepInto_63 rfl ⟨Nat.le_of_ble_eq_true rfl, Nat.le_of_ble_eq_true rfl⟩ ?_
    exact k h2 (x1'.tr' x2) r5 o5
end STEPS
