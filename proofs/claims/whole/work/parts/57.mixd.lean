/-! ===== the class's Mixer: all gifts, steps ===== -/
theorem asc_mem {H : Nat → Nat} : ∀ f c q, q ∈ asc H f c → c ≤ q.1 ∧ q.1 < c + f ∧ q.2 = H q.1
  | 0, c, q, h => by cases h
  | f + 1, c, q, h => by
    rcases List.mem_cons.mp h with e | e
    · subst e; exact ⟨Nat.le_refl _, by show c < c + (f + 1); omega, rfl⟩
    · have := asc_mem f (c + 1) q e
      exact ⟨by omega, by omega, this.2.2⟩
theorem asc_in {H : Nat → Nat} : ∀ f c d, c ≤ d → d < c + f → (d, H d) ∈ asc H f c
  | 0, c, d, h1, h2 => by omega
  | f + 1, c, d, h1, h2 => by
    show (d, H d) ∈ (c, H c) :: asc H f (c + 1)
    by_cases e : d = c
    · subst e; exact List.mem_cons_self
    · exact List.mem_cons_of_mem _ (asc_in f (c + 1) d (by omega) (by omega))
theorem asc_d {H : Nat → Nat} : ∀ f c, dst (asc H f c)
  | 0, c => trivial
  | f + 1, c => ⟨fun r hr => by have := asc_mem f (c + 1) r hr; show r.1 ≠ c; omega, asc_d f (c + 1)⟩
theorem ng_le {H v : Nat → Nat} (h : ∀ c, v c ≤ H c) : ∀ c, ngD (asc H 18 1) v c ≤ H c := by
  obtain ⟨a, b⟩ := ng_in (asc H 18 1) v (asc_d _ _) (fun q hq => by rw [(asc_mem _ _ q hq).2.2]; exact h _)
  intro c
  by_cases z : 1 ≤ c ∧ c < 19
  · exact a (c, H c) (asc_in 18 1 c (by omega) (by omega))
  · rw [b c (fun q hq => by have := asc_mem _ _ q hq; omega)]; exact h c
theorem sm_WT {l : List Nat} (hl : okl l) (x : Nat) : smI (Fx (tly l) l.sum x) (asc (tly l) 18 1) (fun _ => 0) (PD (dsC (tly l) 18)) = WT l x := by
  have hs := hl.2.2
  have e := (cnt_on (Fx (tly l) l.sum x) (dsC (tly l) 18) [] (asc (tly l) 18 1) (fun _ => 0) (by rw [List.append_nil]; rfl) (dsC_d _ _) (fun _ _ => rfl)).1
  rw [e]
  have m := ns_more (Fx (tly l) l.sum x) (tly l) l.sum (18 - l.sum) (fun _ => 0) (fun c hc => tly_hi hc) (fun _ => rfl)
  rw [show l.sum + (18 - l.sum) = 18 by omega] at m
  exact m
theorem WT_hi {l : List Nat} (hl : okl l) {x : Nat} (hx0 : cap l.sum l.sum ≤ x) : WT l x = 0 := by
  unfold WT
  have : ns (Fx (tly l) l.sum x) (dsC (tly l) l.sum) (fun _ => 0) = ns (fun _ => 0) (dsC (tly l) l.sum) (fun _ => 0) := ns_cg _ _ (dsC_d _ _) (fun v a => by
    obtain ⟨hv, hn⟩ := agr_C (fun c hc => tly_hi hc) a
    obtain ⟨r1, r2⟩ := res_ok hv hn (by rw [tly_ws hl]; exact hl.2.2)
    have := nb_lt r1
    rw [r2, tly_ws hl] at this
    unfold Fx
    rw [if_neg (by omega)])
  rw [this, ns_z]
def rcN (l : List Nat) : Nat := cntF (fun x => decide ((0 : Int64) < lN (WT l x))) (cap l.sum l.sum)
theorem cnt_more {P : Nat → Bool} {n : Nat} (h : ∀ x, n ≤ x → P x = false) : ∀ d, cntF P (n + d) = cntF P n
  | 0 => rfl
  | d + 1 => by
    show cntF P (n + d) + (if P (n + d) = true then 1 else 0) = _
    rw [h (n + d) (by omega), cnt_more h d]
    rfl
def acT (n : Nat) (A : Nat → Int64) : Nat → Nat → Int64
  | 0, _ => 0
  | j + 1, x => acT n A j x + (if 0 < A j then A j * lN (WT (wr n j) x) else 0)
theorem acT_cg {n : Nat} {A B : Nat → Int64} (h : ∀ j, A j = B j) : ∀ j x, acT n A j x = acT n B j x
  | 0, _ => rfl
  | j + 1, x => by
    show acT n A j x + _ = acT n B j x + _
    rw [acT_cg h j x, h j]
theorem acT_more {n m : Nat} {A : Nat → Int64} (h : ∀ j, m ≤ j → A j = 0) : ∀ d x, acT n A (m + d) x = acT n A m x
  | 0, _ => rfl
  | d + 1, x => by
    show acT n A (m + d) x + (if 0 < A (m + d) then _ else 0) = _
    rw [h (m + d) (by omega), if_neg (by decide), acT_more h d x, Int64.add_zero]
theorem acT_hi {n : Nat} (hn : n < 19) {A : Nat → Int64} {x : Nat} (hx0 : cap n n ≤ x) : ∀ j, j ≤ cap n n → acT n A j x = 0
  | 0, _ => rfl
  | j + 1, hj => by
    show acT n A j x + (if 0 < A j then A j * lN (WT (wr n j) x) else 0) = 0
    have s := (chk_W hn (show j < cap n n by omega)).1
    rw [acT_hi hn hx0 j (by omega), WT_hi (wr_ok hn (by omega)) (by rw [s]; exact hx0), lN_0, Int64.mul_zero]
    split <;> rfl
def wkT (n f : Nat) : Nat → Nat → Int64
  | 0, x => if x = f then 1 else 0
  | k + 1, x => acT n (wkT n f k) (cap n n) x
theorem wkT_hi {n f : Nat} (hn : n < 19) (hf : f < cap n n) : ∀ k x, cap n n ≤ x → wkT n f k x = 0
  | 0, x, h => by show (if x = f then (1 : Int64) else 0) = 0; rw [if_neg (by omega)]
  | k + 1, x, h => acT_hi hn h _ (Nat.le_refl _)
section MIXD
variable {g : mG} {h : mH} {Q : Option Value → mH → Prop} {nw lt : Nat} {H W : Nat → Nat}
theorem l_X2_spread1 {ra : Nat} {w : Int64} (ea : hc h 6 = some (mxo nw lt)) (e8 : hc h 8 = some (aI 20 H)) (k : ∀ z, Ok g MX2_spread (m_J g MX2_spread Q) 49 [some (.ref 6), some (.ref 4), some (.ref ra), some (.long w), none, some (.int (nI (PD (dsC H 18)))), z] [] h 0 0) :
    ∀ (d j : Nat), j + d = 18 → Ok g MX2_spread (m_J g MX2_spread Q) 22 [some (.ref 6), some (.ref 4), some (.ref ra), some (.long w), none, some (.int (nI (PD (dsC H j)))), some (.int (nI (j + 1)))] [] h 0 0 := by
  intro d
  induction d with
  | zero =>
    intro j hj
    have ej : j = 18 := by omega
    subst ej
    refine ok_iload dX2_spread_22 rfl ?_
    refine ok_bipush (v := nI 19) dX2_spread_24 (by decide) ?_
    refine okN_icmp_ge (tgt := 49) dX2_spread_26 (by decide) (by omega) (by omega) (fun c1 => ?_) (fun c1 => ?_)
    · exact k _
    · exact absurd c1 (by omega)
  | succ d ih =>
    intro j hj
    refine ok_iload dX2_spread_22 rfl ?_
    refine ok_bipush (v := nI 19) dX2_spread_24 (by decide) ?_
    refine okN_icmp_ge (tgt := 49) dX2_spread_26 (by decide) (by omega) (by omega) (fun c1 => ?_) (fun c1 => ?_)
    · exact absurd c1 (by omega)
    · refine ok_iload dX2_spread_29 rfl ?_
      refine ok_aload_n dX2_spread_31 rfl rfl ?_
      refine ok_get dX2_spread_32 fl_X2_15 (by assumption) (by rfl) ?_
      refine ok_iload dX2_spread_35 rfl ?_
      first | refine okN_iald dX2_spread_37 (by assumption) (by omega) (by decide) ?_ | refine okF_iald dX2_spread_37 (by assumption) (by omega) (by omega) ?_ | refine okN_kald dX2_spread_37 (by assumption) (by omega) (by decide) ?_
      refine ok_iconst (v := nI 1) dX2_spread_38 (by decide) ?_
      first | refine okN_iadd dX2_spread_39 ?_ | refine ok_iadd dX2_spread_39 ?_
      first | refine okN_imul dX2_spread_40 ?_ | refine ok_imul dX2_spread_40 ?_
      refine ok_istore dX2_spread_41 (st_7_5 rfl) (Nat.le_of_ble_eq_true rfl) ?_
      refine okN_inc dX2_spread_43 rfl (st_7_6 rfl) (Nat.le_of_ble_eq_true rfl) ?_
      refine ok_goto (tgt := 22) dX2_spread_46 (by decide) ?_
      exact ih (j + 1) (by omega)
theorem l_X2_spread2 {ra rb n len N : Nat} {w : Int64} (hn : n ≤ 18) (hlt : lt = 15 ∨ lt = 16) (hH : ∀ c, H c ≤ 18) (hw : wsum H n = n) (hhi : H (n + 1) = 0) (hN : N < 2 ^ 31) (dr : ra ≠ 9 ∧ ra ≠ 13 ∧ ra ≠ 14 ∧ ra ≠ lt) :
    ∀ (d i : Nat) (v : Nat → Nat) (T1 : Nat → Int64) (h1 : mH), i + d = N → hx [9, 13, 14, lt] h h1 → (∀ c, v c ≤ H c) → Ls h1 4 5 → hc h1 6 = some (mxo nw lt) → hc h1 7 = some (aI 361 choF) → hc h1 8 = some (aI 20 H) → hc h1 9 = some (aI 20 v) → Sp h1 13 14 → hc h1 lt = some (aJ 385 T1) → hc h1 ra = some (rowc rb len n) →
    (∀ h' T', hx [9, 13, 14, lt] h h' → cI h' 9 20 → Sp h' 13 14 → hc h' lt = some (aJ 385 T') → (∀ x, T' x = T1 x + w * lN (smI (Fx H n x) (asc H 18 1) v d)) → Q none h') →
    Ok g MX2_spread (m_J g MX2_spread Q) 52 [some (.ref 6), some (.ref 4), some (.ref ra), some (.long w), none, some (.int (nI N)), some (.int (nI i))] [] h1 0 0 := by
  intro d
  induction d with
  | zero =>
    intro i v T1 h1 hi x1 hv ls ea eb e8 e9 sp et er k
    refine ok_iload dX2_spread_52 rfl ?_
    refine ok_iload dX2_spread_54 rfl ?_
    refine okN_icmp_ge (tgt := 79) dX2_spread_56 (by decide) (by omega) (by omega) (fun c1 => ?_) (fun c1 => ?_)
    · refine ok_vret dX2_spread_79 rfl ⟨Nat.le_of_ble_eq_true rfl, Nat.le_of_ble_eq_true rfl⟩ ?_
      refine k h1 T1 x1 ⟨_, e9⟩ sp et (fun x => ?_)
      show T1 x = T1 x + w * lN 0
      rw [lN_0, Int64.mul_zero, Int64.add_zero]
    · exact absurd c1 (by omega)
  | succ d ih =>
    intro i v T1 h1 hi x1 hv ls ea eb e8 e9 sp et er k
    have els := ls.1
    refine ok_iload dX2_spread_52 rfl ?_
    refine ok_iload dX2_spread_54 rfl ?_
    refine okN_icmp_ge (tgt := 79) dX2_spread_56 (by decide) (by omega) (by omega) (fun c1 => ?_) (fun c1 => ?_)
    · exact absurd c1 (by omega)
    · refine ok_aload_n dX2_spread_59 rfl rfl ?_
      refine ok_aload_n dX2_spread_60 rfl rfl ?_
      refine ok_aload_n dX2_spread_61 rfl rfl ?_
      refine ok_get dX2_spread_62 fl_X2_41 (by assumption) (by rfl) ?_
      refine ok_lload_n dX2_spread_65 rfl ?_
      refine call_X2_land dX2_spread_66 lk_X2_95 ⟨Nat.le_of_ble_eq_true rfl, Nat.le_of_ble_eq_true rfl, Nat.le_of_ble_eq_true rfl⟩ (by assumption) (Nat.le_of_ble_eq_true rfl) ?_
      refine c_X2_land hn hlt hv (by have := hv (n + 1); omega) hH hw ls ea eb e8 e9 sp et (fun h2 x2 sp2 et2 => ?_)
      have ea2 := x2.at (by simp <;> omega) ea
      have e82 := x2.at (by simp <;> omega) e8
      have e92 := x2.at (by simp <;> omega) e9
      refine ok_aload_n dX2_spread_69 rfl rfl ?_
      refine call_X2_nextGift dX2_spread_70 lk_X2_99 ⟨Nat.le_of_ble_eq_true rfl, Nat.le_of_ble_eq_true rfl, Nat.le_of_ble_eq_true rfl⟩ (by assumption) (Nat.le_of_ble_eq_true rfl) ?_
      refine c_X2_nextGift hH (fun c => Nat.le_trans (hv c) (hH c)) ea2 e82 e92 (fun h3 x3 e93 => ?_)
      refine okN_inc dX2_spread_73 rfl (st_7_6 rfl) (Nat.le_of_ble_eq_true rfl) ?_
      refine ok_goto (tgt := 52) dX2_spread_76 (by decide) ?_
      refine ih (i + 1) _ _ h3 (by omega) ((x1.tr x2 (C := [9, 13, 14, lt]) (by simp) (by simp)).tr x3 (by simp) (by simp)) (ng_le hv) ((ls.at x2 (by simp <;> omega) (by simp <;> omega)).at x3 (by decide) (by decide)) (x3.at (by decide) ea2) (x3.at (by decide) (x2.at (by simp <;> omega) eb)) (x3.at (by decide) e82) e93 (sp2.w x3.w (by decide) (by decide)) (x3.at (by simp <;> omega) et2) (x3.at (by simp [dr.1]) (x2.at (by simp [dr.2.1, dr.2.2.1, dr.2.2.2]) er)) (fun h' T' y1 y2 y3 y4 y5 => k h' T' y1 y2 y3 y4 (fun x => ?_))
      rw [y5 x, tb_1, tb_2]
      rfl
theorem c_X2_spread {ra rb : Nat} {l : List Nat} {w : Int64} {T : Nat → Int64} (ol : okl l) (hlt : lt = 15 ∨ lt = 16) (ls : Ls h 4 5) (ea : hc h 6 = some (mxo nw lt)) (eb : hc h 7 = some (aI 361 choF)) (c8 : cI h 8 20) (c9 : cI h 9 20) (sp : Sp h 13 14) (et : hc h lt = some (aJ 385 T)) (r : Rw h ra rb l) (d1 : ra ≠ 8 ∧ ra ≠ 9 ∧ ra ≠ 13 ∧ ra ≠ 14 ∧ ra ≠ lt) (d2 : rb ≠ 8 ∧ rb ≠ 9 ∧ rb ≠ 13 ∧ rb ≠ 14 ∧ rb ≠ lt)
    (k : ∀ h' T', hx [8, 9, 13, 14, lt] h h' → cI h' 8 20 → cI h' 9 20 → Sp h' 13 14 → hc h' lt = some (aJ 385 T') → (∀ x, T' x = T x + w * lN (WT l x)) → Q none h') :
    Ok g MX2_spread (m_J g MX2_spread Q) 0 [some (.ref 6), some (.ref 4), some (.ref ra), some (.long w), none, none, none] [] h 0 0 := by
  obtain ⟨F8, e8⟩ := id c8
  obtain ⟨F9, e9⟩ := id c9
  have er := r.1
  have hs := ol.2.2
  have pb : PD (dsC (tly l) 18) < 2 ^ 31 := by
    have p1 := PD_le (tly_le ol) 18
    rw [tly_gv18 ol] at p1
    have : 2 ^ l.length ≤ 2 ^ 18 := Nat.pow_le_pow_right (by decide) ol.len
    omega
  refine ok_aload_n dX2_spread_0 rfl rfl ?_
  refine ok_aload_n dX2_spread_1 rfl rfl ?_
  refine ok_get dX2_spread_2 fl_X2_15 (by assumption) (by rfl) ?_
  refine call_X3_tallyInto dX2_spread_5 lk_X2_45 ⟨Nat.le_of_ble_eq_true rfl, Nat.le_of_ble_eq_true rfl, Nat.le_of_ble_eq_true rfl⟩ (by assumption) (Nat.le_of_ble_eq_true rfl) ?_
  refine c_X3_tallyInto r (Ne.symm d1.1) (Ne.symm d2.1) ol e8 (fun h1 x1 e81 => ?_)
  have ea1 := x1.at (by decide) ea
  have e91 := x1.at (by decide) e9
  refine ok_aload_n dX2_spread_8 rfl rfl ?_
  refine ok_get dX2_spread_9 fl_X2_18 (by assumption) (by rfl) ?_
  refine ok_iconst (v := nI 0) dX2_spread_12 (by decide) ?_
  refine call_J7_fill_53178 dX2_spread_13 lk_X2_92 ⟨Nat.le_of_ble_eq_true rfl, Nat.le_of_ble_eq_true rfl, Nat.le_of_ble_eq_true rfl⟩ (Nat.le_of_ble_eq_true rfl) ?_
  refine c_J7_fillI e91 (by decide) (fun h2 x2 e92 => ?_)
  have x02 : hx [8, 9] h h2 := x1.tr x2 (by simp) (by simp)
  have ea2 := x2.at (by decide) ea1
  have e82 : hc h2 8 = some (aI 20 (tly l)) := x2.at (by decide) e81
  refine ok_iconst (v := nI 1) dX2_spread_16 (by decide) ?_
  refine ok_istore dX2_spread_17 (st_7_5 rfl) (Nat.le_of_ble_eq_true rfl) ?_
  refine ok_iconst (v := nI 1) dX2_spread_19 (by decide) ?_
  refine ok_istore dX2_spread_20 (st_7_6 rfl) (Nat.le_of_ble_eq_true rfl) ?_
  refine l_X2_spread1 ea2 e82 (fun z => ?_) 18 0 (by omega)
  refine ok_iconst (v := nI 0) dX2_spread_49 (by decide) ?_
  refine ok_istore dX2_spread_50 (st_7_6 rfl) (Nat.le_of_ble_eq_true rfl) ?_
  refine l_X2_spread2 (h := h2) (rb := rb) (len := l.length) hs hlt (tly_le ol) (tly_ws ol) (tly_hi (by omega)) pb ⟨d1.2.1, d1.2.2.1, d1.2.2.2.1, d1.2.2.2.2⟩ (PD (dsC (tly l) 18)) 0 (fun _ => 0) T h2 (by omega) hx.rf (fun c => Nat.zero_le _) (ls.at x02 (by decide) (by decide)) ea2 (x02.at (by decide) eb) e82 e92 (sp.w x02.w (by decide) (by decide)) (x02.at (by simp <;> omega) et) (x02.at (by simp [d1.1, d1.2.1]) er) (fun h' T' y1 y2 y3 y4 y5 => ?_)
  refine k h' T' (x02.tr y1 (by simp) (by simp)) ⟨_, y1.at (by simp <;> omega) e82⟩ y2 y3 y4 (fun x => ?_)
  rw [y5 x, sm_WT ol]
theorem l_X2_countReached {ra : Nat} {T : Nat → Int64} (ea : hc h 6 = some (mxo nw lt)) (et : hc h lt = some (aJ 385 T)) (k : Q (some (.int (nI (cntF (fun x => decide ((0 : Int64) < T x)) 385)))) h) :
    ∀ (d j : Nat), j + d = 385 → Ok g MX2_countReached (m_J g MX2_countReached Q) 20 [some (.ref 6), some (.ref 4), some (.ref ra), some (.int (nI (cntF (fun x => decide ((0 : Int64) < T x)) j))), some (.int (nI j))] [] h 0 0 := by
  intro d
  induction d with
  | zero =>
    intro j hj
    have ej : j = 385 := by omega
    subst ej
    refine ok_iload dX2_countReached_20 rfl ?_
    refine ok_sipush (v := nI 385) dX2_countReached_22 (by decide) ?_
    refine okN_icmp_ge (tgt := 54) dX2_countReached_25 (by decide) (by omega) (by omega) (fun c1 => ?_) (fun c1 => ?_)
    · refine ok_iload_n dX2_countReached_54 rfl ?_
      refine ok_iret dX2_countReached_55 rfl rfl ⟨Nat.le_of_ble_eq_true rfl, Nat.le_of_ble_eq_true rfl⟩ ?_
      exact k
    · exact absurd c1 (by omega)
  | succ d ih =>
    intro j hj
    have nxt := ih (j + 1) (by omega)
    have nxt' : Ok g MX2_countReached (m_J g MX2_countReached Q) 20 [some (.ref 6), some (.ref 4), some (.ref ra), some (.int (nI (cntF (fun x => decide ((0 : Int64) < T x)) j + (if decide ((0 : Int64) < T j) = true then 1 else 0)))), some (.int (nI (j + 1)))] [] h 0 0 := nxt
    refine ok_iload dX2_countReached_20 rfl ?_
    refine ok_sipush (v := nI 385) dX2_countReached_22 (by decide) ?_
    refine okN_icmp_ge (tgt := 54) dX2_countReached_25 (by decide) (by omega) (by omega) (fun c1 => ?_) (fun c1 => ?_)
    · exact absurd c1 (by omega)
    · refine ok_iload_n dX2_countReached_28 rfl ?_
      refine ok_aload_n dX2_countReached_29 rfl rfl ?_
      refine ok_get dX2_countReached_30 fl_X2_38 (by assumption) (by rfl) ?_
      refine ok_iload dX2_countReached_33 rfl ?_
      refine okN_lald dX2_countReached_35 (by assumption) (by omega) (by decide) ?_
      refine ok_lconst (v := 0) dX2_countReached_36 (by decide) ?_
      refine ok_lcmp dX2_countReached_37 ?_
      refine ok_if_le (tgt := 45) dX2_countReached_38 (by decide) (fun c2 => ?_) (fun c2 => ?_)
      · rw [cg0] at c2
        rw [if_neg (by simpa using c2)] at nxt'
        refine ok_iconst (v := nI 0) dX2_countReached_45 (by decide) ?_
        first | refine okN_iadd dX2_countReached_46 ?_ | refine ok_iadd dX2_countReached_46 ?_
        refine ok_istore_n dX2_countReached_47 (st_5_3 rfl) (Nat.le_of_ble_eq_true rfl) ?_
        refine okN_inc dX2_countReached_48 rfl (st_5_4 rfl) (Nat.le_of_ble_eq_true rfl) ?_
        refine ok_goto (tgt := 20) dX2_countReached_51 (by decide) ?_
        exact nxt'
      · rw [cg0] at c2
        rw [if_pos (by simpa using c2)] at nxt'
        refine ok_iconst (v := nI 1) dX2_countReached_41 (by decide) ?_
        refine ok_goto (tgt := 46) dX2_countReached_42 (by decide) ?_
        first | refine okN_iadd dX2_countReached_46 ?_ | refine ok_iadd dX2_countReached_46 ?_
        refine ok_istore_n dX2_countReached_47 (st_5_3 rfl) (Nat.le_of_ble_eq_true rfl) ?_
        refine okN_inc dX2_countReached_48 rfl (st_5_4 rfl) (Nat.le_of_ble_eq_true rfl) ?_
        refine ok_goto (tgt := 20) dX2_countReached_51 (by decide) ?_
        exact nxt'
theorem c_X2_countReached {ra rb : Nat} {l : List Nat} (ol : okl l) (hlt : lt = 15 ∨ lt = 16) (ls : Ls h 4 5) (ea : hc h 6 = some (mxo nw lt)) (eb : hc h 7 = some (aI 361 choF)) (c8 : cI h 8 20) (c9 : cI h 9 20) (sp : Sp h 13 14) (et : cJ h lt 385) (r : Rw h ra rb l) (d1 : ra ≠ 8 ∧ ra ≠ 9 ∧ ra ≠ 13 ∧ ra ≠ 14 ∧ ra ≠ lt) (d2 : rb ≠ 8 ∧ rb ≠ 9 ∧ rb ≠ 13 ∧ rb ≠ 14 ∧ rb ≠ lt)
    (k : ∀ h', hx [8, 9, 13, 14, lt] h h' → cI h' 8 20 → cI h' 9 20 → Sp h' 13 14 → cJ h' lt 385 → Q (some (.int (nI (rcN l)))) h') :
    Ok g MX2_countReached (m_J g MX2_countReached Q) 0 [some (.ref 6), some (.ref 4), some (.ref ra), none, none] [] h 0 0 := by
  obtain ⟨T0, et⟩ := et
  have els := ls.1
  have hs := ol.2.2
  have cl := cap_lt (n := l.sum) (m := l.sum) (by omega) (by omega)
  refine ok_aload_n dX2_countReached_0 rfl rfl ?_
  refine ok_get dX2_countReached_1 fl_X2_38 (by assumption) (by rfl) ?_
  refine ok_lconst (v := 0) dX2_countReached_4 (by decide) ?_
  refine call_J7_fill_d0a16 dX2_countReached_5 lk_X2_64 ⟨Nat.le_of_ble_eq_true rfl, Nat.le_of_ble_eq_true rfl, Nat.le_of_ble_eq_true rfl⟩ (Nat.le_of_ble_eq_true rfl) ?_
  refine c_J7_fillJ et (by decide) (fun h1 x1 et1 => ?_)
  have ea1 := x1.at (by simp <;> omega) ea
  refine ok_aload_n dX2_countReached_8 rfl rfl ?_
  refine ok_aload_n dX2_countReached_9 rfl rfl ?_
  refine ok_aload_n dX2_countReached_10 rfl rfl ?_
  refine ok_lconst (v := 1) dX2_countReached_11 (by decide) ?_
  refine call_X2_spread dX2_countReached_12 lk_X2_70 ⟨Nat.le_of_ble_eq_true rfl, Nat.le_of_ble_eq_true rfl, Nat.le_of_ble_eq_true rfl⟩ (by assumption) (Nat.le_of_ble_eq_true rfl) ?_
  refine c_X2_spread ol hlt (ls.at x1 (by simp <;> omega) (by simp <;> omega)) ea1 (x1.at (by simp <;> omega) eb) (c8.at x1 (by simp <;> omega)) (c9.at x1 (by simp <;> omega)) (sp.w x1.w (by simp <;> omega) (by simp <;> omega)) et1 (r.at x1 (by simp [d1.2.2.2.2]) (by simp [d2.2.2.2.2])) d1 d2 (fun h2 T' x2 y1 y2 y3 y4 y5 => ?_)
  have ea2 := x2.at (by simp <;> omega) ea1
  refine ok_iconst (v := nI 0) dX2_countReached_15 (by decide) ?_
  refine ok_istore_n dX2_countReached_16 (st_5_3 rfl) (Nat.le_of_ble_eq_true rfl) ?_
  refine ok_iconst (v := nI 0) dX2_countReached_17 (by decide) ?_
  refine ok_istore dX2_countReached_18 (st_5_4 rfl) (Nat.le_of_ble_eq_true rfl) ?_
  refine l_X2_countReached ea2 y4 ?_ 385 0 (by omega)
  have e : cntF (fun x => decide ((0 : Int64) < T' x)) 385 = rcN l := by
    have e1 : cntF (fun x => decide ((0 : Int64) < T' x)) 385 = cntF (fun x => decide ((0 : Int64) < lN (WT l x))) 385 := cnt_cg _ (fun x => by
      rw [y5 x]
      show decide ((0 : Int64) < 0 + 1 * lN (WT l x)) = _
      rw [Int64.zero_add, Int64.one_mul])
    have e2 := cnt_more (P := fun x => decide ((0 : Int64) < lN (WT l x))) (n := cap l.sum l.sum) (fun x hx0 => by rw [WT_hi ol hx0]; rfl) (385 - cap l.sum l.sum)
    rw [show cap l.sum l.sum + (385 - cap l.sum l.sum) = 385 by omega] at e2
    rw [e1, e2]
    rfl
  rw [e]
  exact k h2 (x1.tr x2 (by simp) (by simp)) y1 y2 y3 ⟨_, y4⟩
theorem l_X2_spreadAll {n : Nat} {A : Nat → Int64} (hn : n < 19) (hlt : (nw = 15 ∧ lt = 16) ∨ (nw = 16 ∧ lt = 15)) (hA : ∀ j, cap n n ≤ j → A j = 0) :
    ∀ (d j : Nat) (T1 : Nat → Int64) (h1 : mH), j + d = 385 → hx [8, 9, 11, 12, 13, 14, lt] h h1 → Ls h1 4 5 → hc h1 6 = some (mxo nw lt) → hc h1 7 = some (aI 361 choF) → cI h1 8 20 → cI h1 9 20 → Sp h1 11 12 → Sp h1 13 14 → hc h1 nw = some (aJ 385 A) → hc h1 lt = some (aJ 385 T1) → (∀ x, T1 x = acT n A j x) →
    (∀ h' T' z, hx [8, 9, 11, 12, 13, 14, lt] h h' → hc h' 6 = some (mxo nw lt) → cI h' 8 20 → cI h' 9 20 → Sp h' 11 12 → Sp h' 13 14 → hc h' nw = some (aJ 385 A) → hc h' lt = some (aJ 385 T') → (∀ x, T' x = acT n A 385 x) → Ok g MX2_spreadAll (m_J g MX2_spreadAll Q) 59 [some (.ref 6), some (.ref 4), some (.int (nI n)), z] [] h' 0 0) →
    Ok g MX2_spreadAll (m_J g MX2_spreadAll Q) 10 [some (.ref 6), some (.ref 4), some (.int (nI n)), some (.int (nI j))] [] h1 0 0 := by
  intro d
  induction d with
  | zero =>
    intro j T1 h1 hj x1 ls ea eb c8 c9 s1 s2 en et f k
    have ej : j = 385 := by omega
    subst ej
    refine ok_iload_n dX2_spreadAll_10 rfl ?_
    refine ok_sipush (v := nI 385) dX2_spreadAll_11 (by decide) ?_
    refine okN_icmp_ge (tgt := 59) dX2_spreadAll_14 (by decide) (by omega) (by omega) (fun c1 => ?_) (fun c1 => ?_)
    · exact k h1 T1 _ x1 ea c8 c9 s1 s2 en et f
    · exact absurd c1 (by omega)
  | succ d ih =>
    intro j T1 h1 hj x1 ls ea eb c8 c9 s1 s2 en et f k
    have els := ls.1
    refine ok_iload_n dX2_spreadAll_10 rfl ?_
    refine ok_sipush (v := nI 385) dX2_spreadAll_11 (by decide) ?_
    refine okN_icmp_ge (tgt := 59) dX2_spreadAll_14 (by decide) (by omega) (by omega) (fun c1 => ?_) (fun c1 => ?_)
    · exact absurd c1 (by omega)
    · refine ok_aload_n dX2_spreadAll_17 rfl rfl ?_
      refine ok_get dX2_spreadAll_18 fl_X2_34 (by assumption) (by rfl) ?_
      refine ok_iload_n dX2_spreadAll_21 rfl ?_
      refine okN_lald dX2_spreadAll_22 (by assumption) (by omega) (by decide) ?_
      refine ok_lconst (v := 0) dX2_spreadAll_23 (by decide) ?_
      refine ok_lcmp dX2_spreadAll_24 ?_
      refine ok_if_le (tgt := 53) dX2_spreadAll_25 (by decide) (fun c2 => ?_) (fun c2 => ?_)
      · rw [cg0] at c2
        refine okN_inc dX2_spreadAll_53 rfl (st_4_3 rfl) (Nat.le_of_ble_eq_true rfl) ?_
        refine ok_goto (tgt := 10) dX2_spreadAll_56 (by decide) ?_
        refine ih (j + 1) T1 h1 (by omega) x1 ls ea eb c8 c9 s1 s2 en et (fun x => ?_) k
        show T1 x = acT n A j x + (if 0 < A j then A j * lN (WT (wr n j) x) else 0)
        rw [if_neg c2, Int64.add_zero, f x]
      · rw [cg0, Classical.not_not] at c2
        have hj2 : j < cap n n := by
          rcases Nat.lt_or_ge j (cap n n) with z | z
          · exact z
          · rw [hA j z] at c2; exact absurd c2 (by decide)
        have ow := wr_ok hn hj2
        obtain ⟨l1, o1, r1⟩ := s1
        have er1 := r1.1
        refine ok_aload_n dX2_spreadAll_28 rfl rfl ?_
        refine ok_aload_n dX2_spreadAll_29 rfl rfl ?_
        refine ok_get dX2_spreadAll_30 fl_X2_27 (by assumption) (by rfl) ?_
        refine ok_iload_n dX2_spreadAll_33 rfl ?_
        refine ok_iload_n dX2_spreadAll_34 rfl ?_
        refine call_X1_write dX2_spreadAll_35 lk_X2_84 ⟨Nat.le_of_ble_eq_true rfl, Nat.le_of_ble_eq_true rfl, Nat.le_of_ble_eq_true rfl⟩ (by assumption) (Nat.le_of_ble_eq_true rfl) ?_
        refine c_X1_write ls r1 (by decide) (by decide) (by decide) (by decide) (by decide) hn (by omega) (fun h2 x2 r2 _ => ?_)
        have er2 := r2.1
        have ea2 := x2.at (by decide) ea
        have en2 := x2.at (by simp <;> omega) en
        have ls2 := ls.at x2 (by decide) (by decide)
        have els2 := ls2.1
        refine ok_aload_n dX2_spreadAll_38 rfl rfl ?_
        refine ok_aload_n dX2_spreadAll_39 rfl rfl ?_
        refine ok_aload_n dX2_spreadAll_40 rfl rfl ?_
        refine ok_get dX2_spreadAll_41 fl_X2_27 (by assumption) (by rfl) ?_
        refine ok_aload_n dX2_spreadAll_44 rfl rfl ?_
        refine ok_get dX2_spreadAll_45 fl_X2_34 (by assumption) (by rfl) ?_
        refine ok_iload_n dX2_spreadAll_48 rfl ?_
        refine okN_lald dX2_spreadAll_49 (by assumption) (by omega) (by decide) ?_
        refine call_X2_spread dX2_spreadAll_50 lk_X2_70 ⟨Nat.le_of_ble_eq_true rfl, Nat.le_of_ble_eq_true rfl, Nat.le_of_ble_eq_true rfl⟩ (by assumption) (Nat.le_of_ble_eq_true rfl) ?_
        refine c_X2_spread ow (by omega) ls2 ea2 (x2.at (by decide) eb) (c8.at x2 (by decide)) (c9.at x2 (by decide)) (s2.w x2.w (by decide) (by decide)) (x2.at (by simp <;> omega) et) r2 (by omega) (by omega) (fun h3 T' x3 y1 y2 y3 y4 y5 => ?_)
        refine okN_inc dX2_spreadAll_53 rfl (st_4_3 rfl) (Nat.le_of_ble_eq_true rfl) ?_
        refine ok_goto (tgt := 10) dX2_spreadAll_56 (by decide) ?_
        refine ih (j + 1) T' h3 (by omega) ((x1.tr x2 (C := [8, 9, 11, 12, 13, 14, lt]) (by simp) (by simp)).tr x3 (by simp) (by simp)) (ls2.at x3 (by simp <;> omega) (by simp <;> omega)) (x3.at (by simp <;> omega) ea2) (x3.at (by simp <;> omega) (x2.at (by decide) eb)) y1 y2 ⟨_, ow, r2.at x3 (by simp <;> omega) (by simp <;> omega)⟩ y3 (x3.at (by simp <;> omega) en2) y4 (fun x => ?_) k
        show T' x = acT n A j x + (if 0 < A j then A j * lN (WT (wr n j) x) else 0)
        rw [if_pos c2, y5 x, f x]
theorem c_X2_spreadAll {n : Nat} {A : Nat → Int64} (hn : n < 19) (hlt : (nw = 15 ∧ lt = 16) ∨ (nw = 16 ∧ lt = 15)) (hA : ∀ j, cap n n ≤ j → A j = 0) (ls : Ls h 4 5) (ea : hc h 6 = some (mxo nw lt)) (eb : hc h 7 = some (aI 361 choF)) (c8 : cI h 8 20) (c9 : cI h 9 20) (s1 : Sp h 11 12) (s2 : Sp h 13 14) (en : hc h nw = some (aJ 385 A)) (et : cJ h lt 385)
    (k : ∀ h' T', hx [6, 8, 9, 11, 12, 13, 14, lt] h h' → hc h' 6 = some (mxo lt nw) → cI h' 8 20 → cI h' 9 20 → Sp h' 11 12 → Sp h' 13 14 → cJ h' nw 385 → hc h' lt = some (aJ 385 T') → (∀ x, T' x = acT n A 385 x) → Q none h') :
    Ok g MX2_spreadAll (m_J g MX2_spreadAll Q) 0 [some (.ref 6), some (.ref 4), some (.int (nI n)), none] [] h 0 0 := by
  obtain ⟨T0, et⟩ := et
  refine ok_aload_n dX2_spreadAll_0 rfl rfl ?_
  refine ok_get dX2_spreadAll_1 fl_X2_38 (by assumption) (by rfl) ?_
  refine ok_lconst (v := 0) dX2_spreadAll_4 (by decide) ?_
  refine call_J7_fill_d0a16 dX2_spreadAll_5 lk_X2_64 ⟨Nat.le_of_ble_eq_true rfl, Nat.le_of_ble_eq_true rfl, Nat.le_of_ble_eq_true rfl⟩ (Nat.le_of_ble_eq_true rfl) ?_
  refine c_J7_fillJ et (by decide) (fun h1 x1 et1 => ?_)
  refine ok_iconst (v := nI 0) dX2_spreadAll_8 (by decide) ?_
  refine ok_istore_n dX2_spreadAll_9 (st_4_3 rfl) (Nat.le_of_ble_eq_true rfl) ?_
  refine l_X2_spreadAll (h := h1) hn hlt hA 385 0 _ h1 (by omega) hx.rf (ls.at x1 (by simp <;> omega) (by simp <;> omega)) (x1.at (by simp <;> omega) ea) (x1.at (by simp <;> omega) eb) (c8.at x1 (by simp <;> omega)) (c9.at x1 (by simp <;> omega)) (s1.w x1.w (by simp <;> omega) (by simp <;> omega)) (s2.w x1.w (by simp <;> omega) (by simp <;> omega)) (x1.at (by simp <;> omega) en) et1 (fun x => rfl) (fun h2 T' z x2 ea2 y1 y2 y3 y4 y5 y6 y7 => ?_)
  refine ok_aload_n dX2_spreadAll_59 rfl rfl ?_
  refine ok_get dX2_spreadAll_60 fl_X2_34 (by assumption) (by rfl) ?_
  refine ok_astore_n dX2_spreadAll_63 (st_4_3 rfl) (Nat.le_of_ble_eq_true rfl) rfl ?_
  refine ok_aload_n dX2_spreadAll_64 rfl rfl ?_
  refine ok_aload_n dX2_spreadAll_65 rfl rfl ?_
  refine ok_get dX2_spreadAll_66 fl_X2_38 (by assumption) (by rfl) ?_
  refine okR_put dX2_spreadAll_69 fl_X2_34 (by assumption) (Nat.le_of_ble_eq_true rfl) (fun _ => ⟨rfl, rfl⟩) set_8_6 (fun h3 hx3 he3 => ?_)
  refine ok_aload_n dX2_spreadAll_72 rfl rfl ?_
  refine ok_aload_n dX2_spreadAll_73 rfl rfl ?_
  refine okR_put dX2_spreadAll_74 fl_X2_38 (by assumption) (Nat.le_of_ble_eq_true rfl) (fun _ => ⟨rfl, rfl⟩) set_8_7 (fun h4 hx4 he4 => ?_)
  refine ok_vret dX2_spreadAll_77 rfl ⟨Nat.le_of_ble_eq_true rfl, Nat.le_of_ble_eq_true rfl⟩ ?_
  have x24 : hx [6] h2 h4 := hx3.tr' hx4
  refine k h4 T' ((x1.tr x2 (C := [6, 8, 9, 11, 12, 13, 14, lt]) (by simp) (by simp)).tr x24 (by simp) (by simp)) he4 (y1.at x24 (by decide)) (y2.at x24 (by decide)) (y3.w x24.w (by decide) (by decide)) (y4.w x24.w (by decide) (by decide)) ⟨_, x24.at (by simp <;> omega) y5⟩ (x24.at (by simp <;> omega) y6) y7
end MIXD
