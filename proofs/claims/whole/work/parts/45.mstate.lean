/-! ===== the second program's state ===== -/
abbrev mdo (fi : Nat) (wk : Int64) (ru sz : Nat) (li : Int32) (lz : Nat) (kd : Int32) : mE := .inr (5, [.int (nI fi), .ref 47, .long wk, .int (nI ru), .ref 48, .ref 49, .ref 50, .ref 51, .int (nI sz), .int li, .int (nI lz), .ref 52, .ref 53, .ref 54, .ref 55, .ref 56, .ref 57, .ref 58, .ref 59, .ref 60, .ref 61, .ref 62, .int kd, .ref 63])
def cI (h : mH) (a n : Nat) : Prop := ∃ F, hc h a = some (aI n F)
def cJ (h : mH) (a n : Nat) : Prop := ∃ F, hc h a = some (aJ n F)
theorem cI.at {h h' : mH} {A : List Nat} {a n : Nat} (r : cI h a n) (x : hx A h h') (n1 : a ∉ A) : cI h' a n := by obtain ⟨F, e⟩ := r; exact ⟨F, x.at n1 e⟩
theorem cJ.at {h h' : mH} {A : List Nat} {a n : Nat} (r : cJ h a n) (x : hx A h h') (n1 : a ∉ A) : cJ h' a n := by obtain ⟨F, e⟩ := r; exact ⟨F, x.at n1 e⟩
def K47 (h : mH) (C : Nat → Int32) : Prop := ∃ F, hc h 47 = some (aK 6 F) ∧ ∀ f, f < 6 → F f = C f
def K48 (h : mH) (T : Nat → Bool) (P : Nat → List Nat) : Prop := ∃ F, hc h 48 = some (aK 12 F) ∧ ∀ p, p < 12 → F p = (if T p = true then nI (P p).length else -9)
def K49 (h : mH) (T : Nat → Bool) (P : Nat → List Nat) : Prop := ∃ F, hc h 49 = some (aI 216 F) ∧ ∀ p, p < 12 → T p = true → ∀ i, i < (P p).length → F (18 * p + i) = (P p).getD i 0
/-- the list of n stands in the second program -/
def Lst (F52 F53 : Nat → Nat) (n : Nat) : Prop := ∀ k, k < cap n n → F53 k = (wr n k).length ∧ ∀ i, i < (wr n k).length → F52 (18 * k + i) = (wr n k).getD i 0
def KL (h : mH) (li : Int32) (lz : Nat) : Prop := ∃ F52 F53, hc h 52 = some (aI 6930 F52) ∧ hc h 53 = some (aI 385 F53) ∧ (li = -9 ∨ ∃ n, n < 19 ∧ li = nI n ∧ lz = cap n n ∧ Lst F52 F53 n)
def KS (h : mH) : Prop := cI h 50 18 ∧ cI h 51 20 ∧ (∀ a, 54 ≤ a → a ≤ 58 → cI h a 385) ∧ cJ h 59 385 ∧ (∀ a, 60 ≤ a → a ≤ 62 → cI h a 18) ∧ cJ h 63 385
def MI (h : mH) (S : ST) (sz : Nat) (li : Int32) (lz : Nat) (kd : Int32) : Prop := hc h 46 = some (mdo S.2.2.2.1 S.2.2.2.2.2 S.2.2.1 sz li lz kd) ∧ K47 h S.2.2.2.2.1 ∧ K48 h S.1 S.2.1 ∧ K49 h S.1 S.2.1 ∧ KL h li lz ∧ KS h ∧ (∀ p, p < 12 → S.1 p = true → okl (S.2.1 p)) ∧ S.2.2.1 < 4
def IM (h : mH) (S : ST) : Prop := ∃ sz li lz kd, MI h S sz li lz kd
def fM (h h' : mH) : Prop := h'.1 = h.1 ∧ ∀ q, (q < 46 ∨ 64 ≤ q) → hc h' q = hc h q
theorem fM.rf {h : mH} : fM h h := ⟨rfl, fun _ _ => rfl⟩
theorem fM.tr {h h1 h2 : mH} (a : fM h h1) (b : fM h1 h2) : fM h h2 := ⟨b.1.trans a.1, fun q l => (b.2 q l).trans (a.2 q l)⟩
theorem hx.m {A : List Nat} {h h' : mH} (x : hx A h h') (hA : ∀ q ∈ A, 46 ≤ q ∧ q < 64) : fM h h' := ⟨x.1, fun q l => x.2 q (fun z => by have := hA q z; omega)⟩
section MSW
variable {h h' : mH} {A : List Nat}
theorem K47.at {C : Nat → Int32} (r : K47 h C) (x : hx A h h') (n : 47 ∉ A) : K47 h' C := by obtain ⟨F, e, f⟩ := r; exact ⟨F, x.at n e, f⟩
theorem K48.at {T : Nat → Bool} {P : Nat → List Nat} (r : K48 h T P) (x : hx A h h') (n : 48 ∉ A) : K48 h' T P := by obtain ⟨F, e, f⟩ := r; exact ⟨F, x.at n e, f⟩
theorem K49.at {T : Nat → Bool} {P : Nat → List Nat} (r : K49 h T P) (x : hx A h h') (n : 49 ∉ A) : K49 h' T P := by obtain ⟨F, e, f⟩ := r; exact ⟨F, x.at n e, f⟩
theorem KL.at {li : Int32} {lz : Nat} (r : KL h li lz) (x : hx A h h') (n : 52 ∉ A) (n' : 53 ∉ A) : KL h' li lz := by obtain ⟨F, F', e, e', f⟩ := r; exact ⟨F, F', x.at n e, x.at n' e', f⟩
theorem KS.at (r : KS h) (x : hx A h h') (n : ∀ q, (q = 50 ∨ q = 51 ∨ 54 ≤ q) → q ∉ A) : KS h' := by
  obtain ⟨r1, r2, r3, r4, r5, r6⟩ := r
  exact ⟨r1.at x (n _ (by omega)), r2.at x (n _ (by omega)), fun a l1 l2 => (r3 a l1 l2).at x (n _ (by omega)), r4.at x (n _ (by omega)), fun a l1 l2 => (r5 a l1 l2).at x (n _ (by omega)), r6.at x (n _ (by omega))⟩
end MSW
section MBASE
variable {g : mG} {h : mH} {Q : Option Value → mH → Prop} {S : ST} {sz lz : Nat} {li kd : Int32}
theorem c_X5_in {v : Int32} {lo hi : Nat} (hlo : lo < 2 ^ 31) (hhi : hi < 2 ^ 31) (k1 : (lo : Int) ≤ v.toInt → v.toInt ≤ hi → Q (some (.int (nI 1))) h) (k0 : (v.toInt < lo ∨ (hi : Int) < v.toInt) → Q (some (.int (nI 0))) h) : Ok g MX5_in (m_J g MX5_in Q) 0 [some (.int v), some (.int (nI lo)), some (.int (nI hi))] [] h 0 0 := by
  refine ok_iload_n dX5_in_0 rfl ?_
  refine ok_iload_n dX5_in_1 rfl ?_
  refine ok_icmp_lt (tgt := 14) dX5_in_2 (by decide) (fun c1 => ?_) (fun c1 => ?_)
  · refine ok_iconst (v := nI 0) dX5_in_14 (by decide) ?_
    refine ok_iret dX5_in_15 rfl rfl ⟨Nat.le_of_ble_eq_true rfl, Nat.le_of_ble_eq_true rfl⟩ ?_
    exact k0 (Or.inl ((tI_lt hlo).mp c1))
  · refine ok_iload_n dX5_in_5 rfl ?_
    refine ok_iload_n dX5_in_6 rfl ?_
    refine ok_icmp_gt (tgt := 14) dX5_in_7 (by decide) (fun c2 => ?_) (fun c2 => ?_)
    · refine ok_iconst (v := nI 0) dX5_in_14 (by decide) ?_
      refine ok_iret dX5_in_15 rfl rfl ⟨Nat.le_of_ble_eq_true rfl, Nat.le_of_ble_eq_true rfl⟩ ?_
      exact k0 (Or.inr ((tI_gt hhi).mp c2))
    · refine ok_iconst (v := nI 1) dX5_in_10 (by decide) ?_
      refine ok_goto (tgt := 15) dX5_in_11 (by decide) ?_
      refine ok_iret dX5_in_15 rfl rfl ⟨Nat.le_of_ble_eq_true rfl, Nat.le_of_ble_eq_true rfl⟩ ?_
      rw [tI_lt hlo] at c1
      rw [tI_gt hhi] at c2
      exact k1 (by omega) (by omega)
theorem c_X5_inP {v : Int32} {n : Nat} (hn : 0 < n) (hn2 : n < 2 ^ 31) (k1 : ∀ j, pl n v = some j → j < n → v = nI j → Q (some (.int (nI 1))) h) (k0 : pl n v = none → Q (some (.int (nI 0))) h) : Ok g MX5_in (m_J g MX5_in Q) 0 [some (.int v), some (.int (nI 0)), some (.int (nI (n - 1)))] [] h 0 0 := by
  refine c_X5_in (by decide) (by omega) (fun a b => ?_) (fun a => ?_)
  · rcases pl_cases n v hn2 with e | ⟨j, e1, e2, e3⟩
    · have := pl_not e
      omega
    · exact k1 j e1 e2 e3
  · rcases pl_cases n v hn2 with e | ⟨j, e1, e2, e3⟩
    · exact k0 e
    · rw [e3, nI_toInt (by omega)] at a
      omega
theorem c_X5_isParting {p : Int32} (k1 : ∀ j, pl 12 p = some j → j < 12 → p = nI j → Q (some (.int (nI 1))) h) (k0 : pl 12 p = none → Q (some (.int (nI 0))) h) : Ok g MX5_isParting (m_J g MX5_isParting Q) 0 [some (.int p)] [] h 0 0 := by
  refine ok_iload_n dX5_isParting_0 rfl ?_
  refine ok_iconst (v := nI 0) dX5_isParting_1 (by decide) ?_
  refine ok_bipush (v := nI 11) dX5_isParting_2 (by decide) ?_
  refine call_X5_in dX5_isParting_4 lk_X5_69 ⟨Nat.le_of_ble_eq_true rfl, Nat.le_of_ble_eq_true rfl, Nat.le_of_ble_eq_true rfl⟩ (Nat.le_of_ble_eq_true rfl) ?_
  refine c_X5_inP (n := 12) (by decide) (by decide) (fun j e1 e2 e3 => ?_) (fun e => ?_)
  · refine ok_iret dX5_isParting_7 rfl rfl ⟨Nat.le_of_ble_eq_true rfl, Nat.le_of_ble_eq_true rfl⟩ ?_
    exact k1 j e1 e2 e3
  · refine ok_iret dX5_isParting_7 rfl rfl ⟨Nat.le_of_ble_eq_true rfl, Nat.le_of_ble_eq_true rfl⟩ ?_
    exact k0 e
theorem c_X5_meets {f : Nat} (I : MI h S sz li lz kd) (hf : f < 6) (k : ∀ h', hx [46, 47] h h' → MI h' (s_fd S f) sz li lz kd → Q (some (.int (-3))) h') : Ok g MX5_meets (m_J g MX5_meets Q) 0 [some (.ref 46), some (.int (nI f))] [] h 0 0 := by
  obtain ⟨e0, ⟨F, e1, f1⟩, k2, k3, k4, k5, k6, k7⟩ := I
  refine ok_aload_n dX5_meets_0 rfl rfl ?_
  refine ok_iload_n dX5_meets_1 rfl ?_
  refine okR_put dX5_meets_2 fl_X5_66 (by assumption) (Nat.le_of_ble_eq_true rfl) (fun _ => ⟨rfl, rfl⟩) set_24_0 (fun h1 hx1 he1 => ?_)
  have e11 := hx1.at (by decide) e1
  refine ok_aload_n dX5_meets_5 rfl rfl ?_
  refine ok_get dX5_meets_6 fl_X5_7 (by assumption) (by rfl) ?_
  refine ok_iload_n dX5_meets_9 rfl ?_
  refine ok_dup2 dX5_meets_10 rfl rfl ?_
  first | refine okN_iald dX5_meets_11 (by assumption) (by omega) (by decide) ?_ | refine okF_iald dX5_meets_11 (by assumption) (by omega) (by omega) ?_ | refine okN_kald dX5_meets_11 (by assumption) (by omega) (by decide) ?_
  refine ok_iconst (v := nI 1) dX5_meets_12 (by decide) ?_
  first | refine okN_iadd dX5_meets_13 ?_ | refine ok_iadd dX5_meets_13 ?_
  first | refine okN_iast dX5_meets_14 (by assumption) (by omega) (by decide) (fun h2 hx2 he2 => ?_) | refine okC_iast dX5_meets_14 (by assumption) (by omega) (by omega) (by omega) (fun h2 hx2 he2 => ?_) | refine okF_iast dX5_meets_14 (by assumption) (by omega) (by omega) (fun h2 hx2 he2 => ?_) | refine okN_kast dX5_meets_14 (by assumption) (by omega) (by decide) (fun h2 hx2 he2 => ?_)
  refine ok_bipush (v := -3) dX5_meets_15 (by decide) ?_
  refine ok_iret dX5_meets_17 rfl rfl ⟨Nat.le_of_ble_eq_true rfl, Nat.le_of_ble_eq_true rfl⟩ ?_
  have x : hx [46, 47] h h2 := hx1.tr hx2 (by decide) (by decide)
  refine k h2 x ⟨hx2.at (by decide) he1, ⟨_, he2, fun q hq => ?_⟩, k2.at x (by decide), k3.at x (by decide), k4.at x (by decide) (by decide), k5.at x (fun q l => by simp <;> omega), k6, k7⟩
  show up F f (F f + nI 1) q = up S.2.2.2.2.1 f (S.2.2.2.2.1 f + nI 1) q
  rw [f1 f hf]
  by_cases c : q = f
  · rw [c, up_eq, up_eq]
  · rw [up_ne c, up_ne c, f1 q hq]
theorem m9_neg : ¬ (0 : Int32) ≤ -9 := by decide
theorem c_X5_looked {p : Int32} (I : MI h S sz li lz kd) (kb : pl 12 p = none → Q (some (.int (-1))) h) (kn : ∀ j h', pl 12 p = some j → S.1 j = false → hx [46, 47] h h' → MI h' (s_fd S 1) sz li lz kd → Q (some (.int (-3))) h') (k1 : ∀ j, pl 12 p = some j → j < 12 → p = nI j → S.1 j = true → Q (some (.int (nI 0))) h) : Ok g MX5_looked (m_J g MX5_looked Q) 0 [some (.ref 46), some (.int p)] [] h 0 0 := by
  obtain ⟨e0, -, ⟨F, e1, f1⟩, -, -, -, k6, -⟩ := id I
  refine ok_iload_n dX5_looked_0 rfl ?_
  refine call_X5_isParting dX5_looked_1 lk_X5_73 ⟨Nat.le_of_ble_eq_true rfl, Nat.le_of_ble_eq_true rfl, Nat.le_of_ble_eq_true rfl⟩ (Nat.le_of_ble_eq_true rfl) ?_
  refine c_X5_isParting (fun j q1 q2 q3 => ?_) (fun q => ?_)
  · refine okN_if_ne (tgt := 11) dX5_looked_4 (by decide) (by omega) (fun c1 => ?_) (fun c1 => ?_)
    · subst q3
      refine ok_aload_n dX5_looked_11 rfl rfl ?_
      refine ok_get dX5_looked_12 fl_X5_13 (by assumption) (by rfl) ?_
      refine ok_iload_n dX5_looked_15 rfl ?_
      first | refine okN_iald dX5_looked_16 (by assumption) (by omega) (by decide) ?_ | refine okF_iald dX5_looked_16 (by assumption) (by omega) (by omega) ?_ | refine okN_kald dX5_looked_16 (by assumption) (by omega) (by decide) ?_
      rw [f1 j q2]
      cases ht : S.1 j with
      | true =>
        rw [if_pos rfl]
        have hl := (k6 j q2 ht).len
        refine okN_if_ge (tgt := 28) dX5_looked_17 (by decide) (by omega) ?_
        refine ok_iconst (v := nI 0) dX5_looked_28 (by decide) ?_
        refine ok_iret dX5_looked_29 rfl rfl ⟨Nat.le_of_ble_eq_true rfl, Nat.le_of_ble_eq_true rfl⟩ ?_
        exact k1 j q1 q2 rfl ht
      | false =>
        rw [if_neg (by decide)]
        refine ok_if_ge (tgt := 28) dX5_looked_17 (by decide) (fun c2 => ?_) (fun c2 => ?_)
        · exact absurd c2 m9_neg
        · refine ok_aload_n dX5_looked_20 rfl rfl ?_
          refine ok_iconst (v := nI 1) dX5_looked_21 (by decide) ?_
          refine call_X5_meets dX5_looked_22 lk_X5_77 ⟨Nat.le_of_ble_eq_true rfl, Nat.le_of_ble_eq_true rfl, Nat.le_of_ble_eq_true rfl⟩ (by assumption) (Nat.le_of_ble_eq_true rfl) ?_
          refine c_X5_meets I (by decide) (fun h' x' I' => ?_)
          refine ok_goto (tgt := 29) dX5_looked_25 (by decide) ?_
          refine ok_iret dX5_looked_29 rfl rfl ⟨Nat.le_of_ble_eq_true rfl, Nat.le_of_ble_eq_true rfl⟩ ?_
          exact kn j h' q1 ht x' I'
    · exact absurd c1 (by decide)
  · refine okN_if_ne (tgt := 11) dX5_looked_4 (by decide) (by omega) (fun c1 => ?_) (fun c1 => ?_)
    · exact absurd c1 (by decide)
    · refine ok_iconst (v := -1) dX5_looked_7 (by decide) ?_
      refine ok_goto (tgt := 29) dX5_looked_8 (by decide) ?_
      refine ok_iret dX5_looked_29 rfl rfl ⟨Nat.le_of_ble_eq_true rfl, Nat.le_of_ble_eq_true rfl⟩ ?_
      exact kb q
theorem l_X5_cards {p : Nat} (I : MI h S sz li lz kd) (hp : p < 12) (ht : S.1 p = true) (k : Q (some (.int (nI (S.2.1 p).sum))) h) : ∀ (d i : Nat), i + d = (S.2.1 p).length → Ok g MX5_cards (m_J g MX5_cards Q) 4 [some (.ref 46), some (.int (nI p)), some (.int (nI (tsum (S.2.1 p) i))), some (.int (nI i))] [] h 0 0 := by
  obtain ⟨e0, -, ⟨F, e1, f1⟩, ⟨G, e2, g2⟩, -, -, k6, -⟩ := id I
  have hl := (k6 p hp ht).len
  intro d
  induction d with
  | zero =>
    intro i hi
    have ei : i = (S.2.1 p).length := by omega
    subst ei
    refine ok_iload_n dX5_cards_4 rfl ?_
    refine ok_aload_n dX5_cards_5 rfl rfl ?_
    refine ok_get dX5_cards_6 fl_X5_13 (by assumption) (by rfl) ?_
    refine ok_iload_n dX5_cards_9 rfl ?_
    first | refine okN_iald dX5_cards_10 (by assumption) (by omega) (by decide) ?_ | refine okF_iald dX5_cards_10 (by assumption) (by omega) (by omega) ?_ | refine okN_kald dX5_cards_10 (by assumption) (by omega) (by decide) ?_
    rw [f1 p hp, if_pos ht]
    refine okN_icmp_ge (tgt := 34) dX5_cards_11 (by decide) (by omega) (by omega) (fun c1 => ?_) (fun c1 => ?_)
    · refine ok_iload_n dX5_cards_34 rfl ?_
      refine ok_iret dX5_cards_35 rfl rfl ⟨Nat.le_of_ble_eq_true rfl, Nat.le_of_ble_eq_true rfl⟩ ?_
      rw [tsum_len]
      exact k
    · exact absurd c1 (by omega)
  | succ d ih =>
    intro i hi
    have nx1 := ih (i + 1) (by omega)
    rw [tsum_succ _ _ (by omega)] at nx1
    refine ok_iload_n dX5_cards_4 rfl ?_
    refine ok_aload_n dX5_cards_5 rfl rfl ?_
    refine ok_get dX5_cards_6 fl_X5_13 (by assumption) (by rfl) ?_
    refine ok_iload_n dX5_cards_9 rfl ?_
    first | refine okN_iald dX5_cards_10 (by assumption) (by omega) (by decide) ?_ | refine okF_iald dX5_cards_10 (by assumption) (by omega) (by omega) ?_ | refine okN_kald dX5_cards_10 (by assumption) (by omega) (by decide) ?_
    rw [f1 p hp, if_pos ht]
    refine okN_icmp_ge (tgt := 34) dX5_cards_11 (by decide) (by omega) (by omega) (fun c1 => ?_) (fun c1 => ?_)
    · exact absurd c1 (by omega)
    · refine ok_iload_n dX5_cards_14 rfl ?_
      refine ok_aload_n dX5_cards_15 rfl rfl ?_
      refine ok_get dX5_cards_16 fl_X5_16 (by assumption) (by rfl) ?_
      refine ok_bipush (v := nI 18) dX5_cards_19 (by decide) ?_
      refine ok_iload_n dX5_cards_21 rfl ?_
      first | refine okN_imul dX5_cards_22 ?_ | refine ok_imul dX5_cards_22 ?_
      refine ok_iload_n dX5_cards_23 rfl ?_
      first | refine okN_iadd dX5_cards_24 ?_ | refine ok_iadd dX5_cards_24 ?_
      first | refine okN_iald dX5_cards_25 (by assumption) (by omega) (by decide) ?_ | refine okF_iald dX5_cards_25 (by assumption) (by omega) (by omega) ?_ | refine okN_kald dX5_cards_25 (by assumption) (by omega) (by decide) ?_
      rw [g2 p hp ht i c1]
      first | refine okN_iadd dX5_cards_26 ?_ | refine ok_iadd dX5_cards_26 ?_
      refine ok_istore_n dX5_cards_27 (st_4_2 rfl) (Nat.le_of_ble_eq_true rfl) ?_
      refine okN_inc dX5_cards_28 rfl (st_4_3 rfl) (Nat.le_of_ble_eq_true rfl) ?_
      refine ok_goto (tgt := 4) dX5_cards_31 (by decide) ?_
      exact nx1
theorem c_X5_cards {p : Nat} (I : MI h S sz li lz kd) (hp : p < 12) (ht : S.1 p = true) (k : Q (some (.int (nI (S.2.1 p).sum))) h) : Ok g MX5_cards (m_J g MX5_cards Q) 0 [some (.ref 46), some (.int (nI p)), none, none] [] h 0 0 := by
  refine ok_iconst (v := nI 0) dX5_cards_0 (by decide) ?_
  refine ok_istore_n dX5_cards_1 (st_4_2 rfl) (Nat.le_of_ble_eq_true rfl) ?_
  refine ok_iconst (v := nI 0) dX5_cards_2 (by decide) ?_
  refine ok_istore_n dX5_cards_3 (st_4_3 rfl) (Nat.le_of_ble_eq_true rfl) ?_
  exact l_X5_cards I hp ht k (S.2.1 p).length 0 (by omega)
end MBASE
