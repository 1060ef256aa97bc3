/-! ===== the second program's gifts ===== -/
def uA (F : Nat → Nat) (L : List (Nat × Nat)) : Prop := ∀ j, j < L.length → F j = (gD L j).1
def oA (F : Nat → Nat) (L : List (Nat × Nat)) : Prop := ∀ j, j < L.length → F j = (gD L j).2
def vA (F : Nat → Nat) (L : List (Nat × Nat)) (v : Nat → Nat) : Prop := ∀ j, j < L.length → F j = v (gD L j).1
theorem vA_up {F : Nat → Nat} {L : List (Nat × Nat)} {v : Nat → Nat} (a : vA F L v) (hd : dst L) {u : Nat} (hu : u < L.length) (x : Nat) : vA (up F u x) L (up v (gD L u).1 x) := by
  intro j hj
  by_cases c : j = u
  · rw [c, up_eq, up_eq]
  · rw [up_ne c, up_ne (dst_get L hd j u hj hu c)]
    exact a j hj
theorem uA_ap {F : Nat → Nat} {L : List (Nat × Nat)} {q : Nat × Nat} (a : uA F L) : uA (up F L.length q.1) (L ++ [q]) := by
  intro j hj
  rw [List.length_append] at hj
  simp only [List.length_cons, List.length_nil] at hj
  by_cases c : j = L.length
  · rw [c, up_eq, gD_2]
  · rw [up_ne c, gD_1 (by omega)]; exact a j (by omega)
theorem oA_ap {F : Nat → Nat} {L : List (Nat × Nat)} {q : Nat × Nat} (a : oA F L) : oA (up F L.length q.2) (L ++ [q]) := by
  intro j hj
  rw [List.length_append] at hj
  simp only [List.length_cons, List.length_nil] at hj
  by_cases c : j = L.length
  · rw [c, up_eq, gD_2]
  · rw [up_ne c, gD_1 (by omega)]; exact a j (by omega)
theorem uA_last {F : Nat → Nat} {L : List (Nat × Nat)} {q : Nat × Nat} {y : Nat} (a : uA F (L ++ [q])) : uA F (L ++ [(q.1, y)]) := by
  intro j hj
  have hj2 : j < (L ++ [q]).length := by simpa using hj
  have := a j hj2
  rw [List.length_append] at hj
  simp only [List.length_cons, List.length_nil] at hj
  by_cases c : j = L.length
  · rw [this, c, gD_2, gD_2]
  · rw [this, gD_1 (by omega), gD_1 (by omega)]
theorem oA_last {F : Nat → Nat} {L : List (Nat × Nat)} {q : Nat × Nat} {y : Nat} (a : oA F (L ++ [q])) : oA (up F L.length y) (L ++ [(q.1, y)]) := by
  intro j hj
  have hj2 : j < (L ++ [q]).length := by simpa using hj
  have := a j hj2
  rw [List.length_append] at hj
  simp only [List.length_cons, List.length_nil] at hj
  by_cases c : j = L.length
  · rw [c, up_eq, gD_2]
  · rw [up_ne c, this, gD_1 (by omega), gD_1 (by omega)]
theorem rl_in (l : List Nat) : ∀ i, i ≤ l.length → ∀ q ∈ rl l i, q.1 ≤ l.sum
  | 0, _, q, h => by cases h
  | i + 1, hi, q, h => by
    have ih := rl_in l i (by omega)
    have gb := gd_sum l i
    have h' : q ∈ rlA (l.getD i 0) (rl l i) := h
    rcases List.eq_nil_or_concat (rl l i) with e | ⟨L0, r, e⟩
    · rw [e] at h'
      rcases List.mem_cons.mp h' with z | z
      · rw [z]; exact gb
      · cases z
    · rw [List.concat_eq_append] at e
      have hr := ih r (by rw [e]; simp)
      by_cases z : r.1 = l.getD i 0
      · rw [e, rl_old _ r z] at h'
        rcases List.mem_append.mp h' with y | y
        · exact ih q (by rw [e]; exact List.mem_append.mpr (Or.inl y))
        · rw [List.mem_singleton] at y
          rw [y]; exact hr
      · rw [rl_new _ _ (fun L1 r' e' => by
          rw [e] at e'
          have := List.append_inj_right' e' rfl
          cases this
          exact z)] at h'
        rcases List.mem_append.mp h' with y | y
        · exact ih q y
        · rw [List.mem_singleton] at y
          rw [y]; exact gb
theorem MI.setZ {h h' : mH} {S : ST} {sz sz' lz : Nat} {li kd kd' : Int32} (I : MI h S sz li lz kd) (x : hx [46, 51, 59, 60, 61, 62] h h') (e : hc h' 46 = some (mdo S.2.2.2.1 S.2.2.2.2.2 S.2.2.1 sz' li lz kd')) (c : cI h' 51 20) (c9 : cJ h' 59 385) (c6 : ∀ a, 60 ≤ a → a ≤ 62 → cI h' a 18) : MI h' S sz' li lz kd' := by
  obtain ⟨e0, k1, k2, k3, k4, ⟨r1, r2, r3, r4, r5, r6⟩, k6, k7⟩ := I
  exact ⟨e, k1.at x (by decide), k2.at x (by decide), k3.at x (by decide), k4.at x (by decide) (by decide), ⟨r1.at x (by decide), c, fun a l1 l2 => (r3 a l1 l2).at x (by simp <;> omega), c9, c6, r6.at x (by decide)⟩, k6, k7⟩
section MWAYS
variable {g : mG} {h : mH} {Q : Option Value → mH → Prop} {S : ST} {sz lz : Nat} {li kd : Int32} {fi : Nat} {wk : Int64} {ru : Nat}
theorem l_X5_choices {n k0 : Nat} (hn : n < 19) (hk : k0 ≤ n) (k : Q (some (.long (lN (cho n k0)))) h) :
    ∀ (d i : Nat), i + d = k0 → Ok g MX5_choices (m_J g MX5_choices Q) 5 [some (.int (nI n)), some (.int (nI k0)), some (.long (lN (cho n i))), none, some (.int (nI i))] [] h 0 0 := by
  intro d
  induction d with
  | zero =>
    intro i hi
    have ei : i = k0 := by omega
    subst ei
    refine ok_iload dX5_choices_5 rfl ?_
    refine ok_iload_n dX5_choices_7 rfl ?_
    refine okN_icmp_ge (tgt := 31) dX5_choices_8 (by decide) (by omega) (by omega) (fun c1 => ?_) (fun c1 => ?_)
    · refine ok_lload_n dX5_choices_31 rfl ?_
      refine ok_lret dX5_choices_32 rfl ⟨Nat.le_of_ble_eq_true rfl, Nat.le_of_ble_eq_true rfl⟩ ?_
      exact k
    · exact absurd c1 (by omega)
  | succ d ih =>
    intro i hi
    obtain ⟨s1, s2⟩ := cho_step n hn i (by omega)
    refine ok_iload dX5_choices_5 rfl ?_
    refine ok_iload_n dX5_choices_7 rfl ?_
    refine okN_icmp_ge (tgt := 31) dX5_choices_8 (by decide) (by omega) (by omega) (fun c1 => ?_) (fun c1 => ?_)
    · exact absurd c1 (by omega)
    · refine ok_lload_n dX5_choices_11 rfl ?_
      refine ok_iload_n dX5_choices_12 rfl ?_
      refine ok_iload dX5_choices_13 rfl ?_
      first | refine okN_isub dX5_choices_15 (by omega) ?_ | refine ok_isub dX5_choices_15 ?_
      refine ok_i2l dX5_choices_16 ?_
      rw [nI_l (by omega)]
      refine ok_lmul dX5_choices_17 ?_
      rw [lN_mul]
      refine ok_iload dX5_choices_18 rfl ?_
      refine ok_iconst (v := nI 1) dX5_choices_20 (by decide) ?_
      first | refine okN_iadd dX5_choices_21 ?_ | refine ok_iadd dX5_choices_21 ?_
      refine ok_i2l dX5_choices_22 ?_
      rw [nI_l (by omega)]
      refine ok_ldiv dX5_choices_23 (fun e => absurd ((lN_eq (by omega) (by decide)).mp (e.trans (show (0 : Int64) = lN 0 from rfl))) (by omega)) ?_
      rw [pk_lDiv s2 (by omega) (by omega), s1]
      refine ok_lstore_n dX5_choices_24 (st2_5_2 rfl) (Nat.le_of_ble_eq_true rfl) ?_
      refine okN_inc dX5_choices_25 rfl (st_5_4 rfl) (Nat.le_of_ble_eq_true rfl) ?_
      refine ok_goto (tgt := 5) dX5_choices_28 (by decide) ?_
      exact ih (i + 1) (by omega)
theorem c_X5_choices {n k0 : Nat} (hn : n < 19) (hk : k0 ≤ n) (k : Q (some (.long (lN (cho n k0)))) h) : Ok g MX5_choices (m_J g MX5_choices Q) 0 [some (.int (nI n)), some (.int (nI k0)), none, none, none] [] h 0 0 := by
  refine ok_lconst (v := 1) dX5_choices_0 (by decide) ?_
  refine ok_lstore_n dX5_choices_1 (st2_5_2 rfl) (Nat.le_of_ble_eq_true rfl) ?_
  refine ok_iconst (v := nI 0) dX5_choices_2 (by decide) ?_
  refine ok_istore dX5_choices_3 (st_5_4 rfl) (Nat.le_of_ble_eq_true rfl) ?_
  have := l_X5_choices (g := g) hn hk k k0 0 (by omega)
  rw [cho_n0 n hn] at this
  exact this
theorem l_X5_noWays (e0 : hc h 46 = some (mdo fi wk ru sz li lz kd)) (k : ∀ h', hx [59] h h' → hc h' 59 = some (aJ 385 (fun _ => 0)) → Q none h') :
    ∀ (d i : Nat) (h1 : mH) (T : Nat → Int64), i + d = 385 → hx [59] h h1 → hc h1 59 = some (aJ 385 T) → (∀ x, x < i → T x = 0) → Ok g MX5_noWays (m_J g MX5_noWays Q) 2 [some (.ref 46), some (.int (nI i))] [] h1 0 0 := by
  intro d
  induction d with
  | zero =>
    intro i h1 T hi x1 e9 f
    refine ok_extJ e9 (fun j hj => f j (by omega)) (fun h2 x2 e92 => ?_)
    refine ok_iload_n dX5_noWays_2 rfl ?_
    refine ok_sipush (v := nI 385) dX5_noWays_3 (by decide) ?_
    refine okN_icmp_ge (tgt := 22) dX5_noWays_6 (by decide) (by omega) (by omega) (fun c1 => ?_) (fun c1 => ?_)
    · refine ok_vret dX5_noWays_22 rfl ⟨Nat.le_of_ble_eq_true rfl, Nat.le_of_ble_eq_true rfl⟩ ?_
      exact k h2 (x1.tr' x2) e92
    · exact absurd c1 (by omega)
  | succ d ih =>
    intro i h1 T hi x1 e9 f
    have e01 := x1.at (by decide) e0
    refine ok_iload_n dX5_noWays_2 rfl ?_
    refine ok_sipush (v := nI 385) dX5_noWays_3 (by decide) ?_
    refine okN_icmp_ge (tgt := 22) dX5_noWays_6 (by decide) (by omega) (by omega) (fun c1 => ?_) (fun c1 => ?_)
    · exact absurd c1 (by omega)
    · refine ok_aload_n dX5_noWays_9 rfl rfl ?_
      refine ok_get dX5_noWays_10 fl_X5_50 (by assumption) (by rfl) ?_
      refine ok_iload_n dX5_noWays_13 rfl ?_
      refine ok_lconst (v := 0) dX5_noWays_14 (by decide) ?_
      refine okN_last dX5_noWays_15 (by assumption) (by omega) (by decide) (fun h2 hx2 he2 => ?_)
      refine okN_inc dX5_noWays_16 rfl (st_2_1 rfl) (Nat.le_of_ble_eq_true rfl) ?_
      refine ok_goto (tgt := 2) dX5_noWays_19 (by decide) ?_
      refine ih (i + 1) h2 _ (by omega) (x1.tr' hx2) he2 (fun x hx5 => ?_)
      by_cases c : x = i
      · rw [c, up_eq]
      · rw [up_ne c, f x (by omega)]
theorem c_X5_noWays (I : MI h S sz li lz kd) (k : ∀ h', hx [59] h h' → MI h' S sz li lz kd → hc h' 59 = some (aJ 385 (fun _ => 0)) → Q none h') : Ok g MX5_noWays (m_J g MX5_noWays Q) 0 [some (.ref 46), none] [] h 0 0 := by
  obtain ⟨e0, k1, k2, k3, k4, ⟨r1, r2, r3, ⟨T, e9⟩, r5, r6⟩, k6, k7⟩ := id I
  refine ok_iconst (v := nI 0) dX5_noWays_0 (by decide) ?_
  refine ok_istore_n dX5_noWays_1 (st_2_1 rfl) (Nat.le_of_ble_eq_true rfl) ?_
  refine l_X5_noWays e0 (fun h' x e => k h' x ?_ e) 385 0 h T (by omega) hx.rf e9 (fun x hx5 => by omega)
  exact I.setZ (x.mono (by simp)) (x.at (by decide) e0) (r2.at x (by decide)) ⟨_, e⟩ (fun a l1 l2 => (r5 a l1 l2).at x (by simp <;> omega))
theorem l_X5_aw1 {n kk : Nat} {w : Int64} {l : List Nat} {F52 F53 : Nat → Nat} (ol : okl l) (hkk : kk < 385) (f3 : F53 kk = l.length) (f2 : ∀ i, i < l.length → F52 (18 * kk + i) = l.getD i 0)
    (k : ∀ h' U O G z5, hx [46, 60, 61, 62] h h' → hc h' 46 = some (mdo fi wk ru sz li lz (nI (rl l l.length).length)) → hc h' 60 = some (aI 18 U) → hc h' 61 = some (aI 18 O) → hc h' 62 = some (aI 18 G) → uA U (rl l l.length) → oA O (rl l l.length) → (∀ j, j < (rl l l.length).length → G j = 0) → Ok g MX5_addWays (m_J g MX5_addWays Q) 118 [some (.ref 46), some (.int (nI kk)), some (.long w), none, some (.int (nI l.length)), z5, none, none, none, none] [] h' 0 0) :
    ∀ (d i : Nat) (h1 : mH) (U O G : Nat → Nat) (z5 : Option Value), i + d = l.length → hx [46, 60, 61, 62] h h1 → hc h1 46 = some (mdo fi wk ru sz li lz (nI (rl l i).length)) → hc h1 52 = some (aI 6930 F52) → hc h1 53 = some (aI 385 F53) → hc h1 60 = some (aI 18 U) → hc h1 61 = some (aI 18 O) → hc h1 62 = some (aI 18 G) → uA U (rl l i) → oA O (rl l i) → (∀ j, j < (rl l i).length → G j = 0) → Ok g MX5_addWays (m_J g MX5_addWays Q) 8 [some (.ref 46), some (.int (nI kk)), some (.long w), none, some (.int (nI i)), z5, none, none, none, none] [] h1 0 0 := by
  have hlen := ol.len
  have hs := ol.2.2
  intro d
  induction d with
  | zero =>
    intro i h1 U O G z5 hi x1 e0 e52 e53 e60 e61 e62 u o gz
    have ei : i = l.length := by omega
    subst ei
    refine ok_iload dX5_addWays_8 rfl ?_
    refine ok_aload_n dX5_addWays_10 rfl rfl ?_
    refine ok_get dX5_addWays_11 fl_X5_32 (by assumption) (by rfl) ?_
    refine ok_iload_n dX5_addWays_14 rfl ?_
    first | refine okN_iald dX5_addWays_15 (by assumption) (by omega) (by decide) ?_ | refine okF_iald dX5_addWays_15 (by assumption) (by omega) (by omega) ?_ | refine okN_kald dX5_addWays_15 (by assumption) (by omega) (by decide) ?_
    rw [f3]
    refine okN_icmp_ge (tgt := 118) dX5_addWays_16 (by decide) (by omega) (by omega) (fun c1 => ?_) (fun c1 => ?_)
    · exact k h1 U O G _ x1 e0 e60 e61 e62 u o gz
    · exact absurd c1 (by omega)
  | succ d ih =>
    intro i h1 U O G z5 hi x1 e0 e52 e53 e60 e61 e62 u o gz
    have gb := gd_sum l i
    have rlen := rl_len l i
    have nxt := ih (i + 1)
    have r97 : ∀ (L0 : List (Nat × Nat)) (q : Nat × Nat) (h2 : mH) (U O G : Nat → Nat) (x2 : hx [46, 60, 61, 62] h1 h2), L0.length < 18 → rl l (i + 1) = L0 ++ [(q.1, q.2 + 1)] → hc h2 46 = some (mdo fi wk ru sz li lz (nI (L0.length + 1))) → hc h2 60 = some (aI 18 U) → hc h2 61 = some (aI 18 O) → hc h2 62 = some (aI 18 G) → uA U (L0 ++ [q]) → oA O (L0 ++ [q]) → (∀ j, j < L0.length + 1 → G j = 0) →
        Ok g MX5_addWays (m_J g MX5_addWays Q) 97 [some (.ref 46), some (.int (nI kk)), some (.long w), none, some (.int (nI i)), some (.int (nI (l.getD i 0))), none, none, none, none] [] h2 0 0 := by
      intro L0 q h2 U O G x2 hL hr e0 e60 e61 e62 u o gz
      have ll : (L0 ++ [(q.1, q.2 + 1)]).length = L0.length + 1 := by simp
      have oq : O L0.length = q.2 := by
        have := o L0.length (by simp)
        rw [gD_2] at this
        exact this
      refine ok_aload_n dX5_addWays_97 rfl rfl ?_
      refine ok_get dX5_addWays_98 fl_X5_57 (by assumption) (by rfl) ?_
      refine ok_aload_n dX5_addWays_101 rfl rfl ?_
      refine ok_get dX5_addWays_102 fl_X5_149 (by assumption) (by rfl) ?_
      refine ok_iconst (v := nI 1) dX5_addWays_105 (by decide) ?_
      first | refine okN_isub dX5_addWays_106 (by omega) ?_ | refine ok_isub dX5_addWays_106 ?_
      refine ok_dup2 dX5_addWays_107 rfl rfl ?_
      first | refine okN_iald dX5_addWays_108 (by assumption) (by omega) (by decide) ?_ | refine okF_iald dX5_addWays_108 (by assumption) (by omega) (by omega) ?_ | refine okN_kald dX5_addWays_108 (by assumption) (by omega) (by decide) ?_
      rw [Nat.add_sub_cancel, oq]
      refine ok_iconst (v := nI 1) dX5_addWays_109 (by decide) ?_
      first | refine okN_iadd dX5_addWays_110 ?_ | refine ok_iadd dX5_addWays_110 ?_
      first | refine okN_iast dX5_addWays_111 (by assumption) (by omega) (by decide) (fun h3 hx3 he3 => ?_) | refine okC_iast dX5_addWays_111 (by assumption) (by omega) (by omega) (by omega) (fun h3 hx3 he3 => ?_) | refine okF_iast dX5_addWays_111 (by assumption) (by omega) (by omega) (fun h3 hx3 he3 => ?_) | refine okN_kast dX5_addWays_111 (by assumption) (by omega) (by decide) (fun h3 hx3 he3 => ?_)
      refine okN_inc dX5_addWays_112 rfl (st_10_4 rfl) (Nat.le_of_ble_eq_true rfl) ?_
      refine ok_goto (tgt := 8) dX5_addWays_115 (by decide) ?_
      rw [hr] at nxt
      rw [ll] at nxt
      refine nxt h3 U _ G _ (by omega) ((x1.tr' x2).tr hx3 (by simp) (by simp)) (hx3.at (by decide) e0) (hx3.at (by decide) (x2.at (by decide) e52)) (hx3.at (by decide) (x2.at (by decide) e53)) (hx3.at (by decide) e60) he3 (hx3.at (by decide) e62) (uA_last u) (oA_last o) gz
    have r56 : (∀ L0 q, rl l i = L0 ++ [q] → q.1 ≠ l.getD i 0) → Ok g MX5_addWays (m_J g MX5_addWays Q) 56 [some (.ref 46), some (.int (nI kk)), some (.long w), none, some (.int (nI i)), some (.int (nI (l.getD i 0))), none, none, none, none] [] h1 0 0 := by
      intro hq
      have hr : rl l (i + 1) = rl l i ++ [(l.getD i 0, 1)] := rl_new (l.getD i 0) (rl l i) hq
      generalize rl l i = L at *
      refine ok_aload_n dX5_addWays_56 rfl rfl ?_
      refine ok_get dX5_addWays_57 fl_X5_54 (by assumption) (by rfl) ?_
      refine ok_aload_n dX5_addWays_60 rfl rfl ?_
      refine ok_get dX5_addWays_61 fl_X5_149 (by assumption) (by rfl) ?_
      refine ok_iload dX5_addWays_64 rfl ?_
      first | refine okN_iast dX5_addWays_66 (by assumption) (by omega) (by decide) (fun h2 hx2 he2 => ?_) | refine okC_iast dX5_addWays_66 (by assumption) (by omega) (by omega) (by omega) (fun h2 hx2 he2 => ?_) | refine okF_iast dX5_addWays_66 (by assumption) (by omega) (by omega) (fun h2 hx2 he2 => ?_) | refine okN_kast dX5_addWays_66 (by assumption) (by omega) (by decide) (fun h2 hx2 he2 => ?_)
      have e02 := hx2.at (by decide) e0
      have e612 := hx2.at (by decide) e61
      have e622 := hx2.at (by decide) e62
      refine ok_aload_n dX5_addWays_67 rfl rfl ?_
      refine ok_get dX5_addWays_68 fl_X5_57 (by assumption) (by rfl) ?_
      refine ok_aload_n dX5_addWays_71 rfl rfl ?_
      refine ok_get dX5_addWays_72 fl_X5_149 (by assumption) (by rfl) ?_
      refine ok_iconst (v := nI 0) dX5_addWays_75 (by decide) ?_
      first | refine okN_iast dX5_addWays_76 (by assumption) (by omega) (by decide) (fun h3 hx3 he3 => ?_) | refine okC_iast dX5_addWays_76 (by assumption) (by omega) (by omega) (by omega) (fun h3 hx3 he3 => ?_) | refine okF_iast dX5_addWays_76 (by assumption) (by omega) (by omega) (fun h3 hx3 he3 => ?_) | refine okN_kast dX5_addWays_76 (by assumption) (by omega) (by decide) (fun h3 hx3 he3 => ?_)
      have e03 := hx3.at (by decide) e02
      have e623 := hx3.at (by decide) e622
      refine ok_aload_n dX5_addWays_77 rfl rfl ?_
      refine ok_get dX5_addWays_78 fl_X5_60 (by assumption) (by rfl) ?_
      refine ok_aload_n dX5_addWays_81 rfl rfl ?_
      refine ok_get dX5_addWays_82 fl_X5_149 (by assumption) (by rfl) ?_
      refine ok_iconst (v := nI 0) dX5_addWays_85 (by decide) ?_
      first | refine okN_iast dX5_addWays_86 (by assumption) (by omega) (by decide) (fun h4 hx4 he4 => ?_) | refine okC_iast dX5_addWays_86 (by assumption) (by omega) (by omega) (by omega) (fun h4 hx4 he4 => ?_) | refine okF_iast dX5_addWays_86 (by assumption) (by omega) (by omega) (fun h4 hx4 he4 => ?_) | refine okN_kast dX5_addWays_86 (by assumption) (by omega) (by decide) (fun h4 hx4 he4 => ?_)
      have e04 := hx4.at (by decide) e03
      refine ok_aload_n dX5_addWays_87 rfl rfl ?_
      refine ok_dup dX5_addWays_88 rfl ?_
      refine ok_get dX5_addWays_89 fl_X5_149 (by assumption) (by rfl) ?_
      refine ok_iconst (v := nI 1) dX5_addWays_92 (by decide) ?_
      first | refine okN_iadd dX5_addWays_93 ?_ | refine ok_iadd dX5_addWays_93 ?_
      refine okR_put dX5_addWays_94 fl_X5_149 (by assumption) (Nat.le_of_ble_eq_true rfl) (fun _ => ⟨rfl, rfl⟩) set_24_22 (fun h5 hx5 he5 => ?_)
      have x15 : hx [46, 60, 61, 62] h1 h5 := ((hx2.tr hx3 (C := [46, 60, 61, 62]) (by simp) (by simp)).tr hx4 (C := [46, 60, 61, 62]) (by simp) (by simp)).tr hx5 (by simp) (by simp)
      refine r97 L (l.getD i 0, 0) h5 _ _ _ x15 (by omega) hr he5 (hx5.at (by decide) (hx4.at (by decide) (hx3.at (by decide) he2))) (hx5.at (by decide) (hx4.at (by decide) he3)) (hx5.at (by decide) he4) (uA_ap (q := (l.getD i 0, 0)) u) (oA_ap (q := (l.getD i 0, 0)) o) (fun j hj => ?_)
      by_cases c : j = L.length
      · rw [c, up_eq]
      · rw [up_ne c, gz j (by omega)]
    refine ok_iload dX5_addWays_8 rfl ?_
    refine ok_aload_n dX5_addWays_10 rfl rfl ?_
    refine ok_get dX5_addWays_11 fl_X5_32 (by assumption) (by rfl) ?_
    refine ok_iload_n dX5_addWays_14 rfl ?_
    first | refine okN_iald dX5_addWays_15 (by assumption) (by omega) (by decide) ?_ | refine okF_iald dX5_addWays_15 (by assumption) (by omega) (by omega) ?_ | refine okN_kald dX5_addWays_15 (by assumption) (by omega) (by decide) ?_
    rw [f3]
    refine okN_icmp_ge (tgt := 118) dX5_addWays_16 (by decide) (by omega) (by omega) (fun c1 => ?_) (fun c1 => ?_)
    · exact absurd c1 (by omega)
    · refine ok_aload_n dX5_addWays_19 rfl rfl ?_
      refine ok_get dX5_addWays_20 fl_X5_29 (by assumption) (by rfl) ?_
      refine ok_bipush (v := nI 18) dX5_addWays_23 (by decide) ?_
      refine ok_iload_n dX5_addWays_25 rfl ?_
      first | refine okN_imul dX5_addWays_26 ?_ | refine ok_imul dX5_addWays_26 ?_
      refine ok_iload dX5_addWays_27 rfl ?_
      first | refine okN_iadd dX5_addWays_29 ?_ | refine ok_iadd dX5_addWays_29 ?_
      first | refine okN_iald dX5_addWays_30 (by assumption) (by omega) (by decide) ?_ | refine okF_iald dX5_addWays_30 (by assumption) (by omega) (by omega) ?_ | refine okN_kald dX5_addWays_30 (by assumption) (by omega) (by decide) ?_
      rw [f2 i c1]
      refine ok_istore dX5_addWays_31 (st_10_5 rfl) (Nat.le_of_ble_eq_true rfl) ?_
      refine ok_aload_n dX5_addWays_33 rfl rfl ?_
      refine ok_get dX5_addWays_34 fl_X5_149 (by assumption) (by rfl) ?_
      rcases List.eq_nil_or_concat (rl l i) with e | ⟨L0, q, e⟩
      · have el : (rl l i).length = 0 := by rw [e]; rfl
        refine okN_if_eq (tgt := 56) dX5_addWays_37 (by decide) (by omega) (fun c2 => ?_) (fun c2 => ?_)
        · exact r56 (fun L1 r e' => by rw [e] at e'; simp at e')
        · exact absurd c2 (by omega)
      · rw [List.concat_eq_append] at e
        have el : (rl l i).length = L0.length + 1 := by rw [e]; simp
        have uq : U L0.length = q.1 := by
          have := u L0.length (by omega)
          rw [e, gD_2] at this
          exact this
        have ub := rl_in l i (by omega) q (by rw [e]; simp)
        refine okN_if_eq (tgt := 56) dX5_addWays_37 (by decide) (by omega) (fun c2 => ?_) (fun c2 => ?_)
        · exact absurd c2 (by omega)
        · refine ok_aload_n dX5_addWays_40 rfl rfl ?_
          refine ok_get dX5_addWays_41 fl_X5_54 (by assumption) (by rfl) ?_
          refine ok_aload_n dX5_addWays_44 rfl rfl ?_
          refine ok_get dX5_addWays_45 fl_X5_149 (by assumption) (by rfl) ?_
          refine ok_iconst (v := nI 1) dX5_addWays_48 (by decide) ?_
          first | refine okN_isub dX5_addWays_49 (by omega) ?_ | refine ok_isub dX5_addWays_49 ?_
          first | refine okN_iald dX5_addWays_50 (by assumption) (by omega) (by decide) ?_ | refine okF_iald dX5_addWays_50 (by assumption) (by omega) (by omega) ?_ | refine okN_kald dX5_addWays_50 (by assumption) (by omega) (by decide) ?_
          rw [el, Nat.add_sub_cancel, uq]
          refine ok_iload dX5_addWays_51 rfl ?_
          refine okN_icmp_eq (tgt := 97) dX5_addWays_53 (by decide) (by omega) (by omega) (fun c3 => ?_) (fun c3 => ?_)
          · have hr : rl l (i + 1) = L0 ++ [(q.1, q.2 + 1)] := by
              show rlA (l.getD i 0) (rl l i) = _
              rw [e, rl_old _ q c3]
            rw [e] at u o
            rw [el] at gz e0
            exact r97 L0 q h1 U O G hx.rf (by omega) hr e0 e60 e61 e62 u o gz
          · exact r56 (fun L1 r e' => by
              rw [e] at e'
              have := List.append_inj_right' e' rfl
              cases this
              exact c3)
end MWAYS
