/-! ===== the second program's calls on its partings ===== -/
theorem MI.setTP {h h' : mH} {S : ST} {sz lz : Nat} {li kd : Int32} {A : List Nat} (I : MI h S sz li lz kd) {p : Nat} {l : List Nat} (x : hx A h h') (hA : ∀ q ∈ A, q = 48 ∨ q = 49) (r8 : K48 h' (up S.1 p true) (up S.2.1 p l)) (r9 : K49 h' (up S.1 p true) (up S.2.1 p l)) (ol : okl l) : MI h' (s_TP S p l) sz li lz kd := by
  obtain ⟨e0, k1, k2, k3, k4, k5, k6, k7⟩ := I
  have n : ∀ q, q ≠ 48 → q ≠ 49 → q ∉ A := fun q a b z => by have := hA q z; omega
  refine ⟨x.at (n _ (by decide) (by decide)) e0, k1.at x (n _ (by decide) (by decide)), r8, r9, k4.at x (n _ (by decide) (by decide)) (n _ (by decide) (by decide)), k5.at x (fun q l => n q (by omega) (by omega)), fun q hq ht => ?_, k7⟩
  by_cases c : q = p
  · subst c
    show okl (up S.2.1 q l q)
    rw [up_eq]; exact ol
  · show okl (up S.2.1 p l q)
    have ht' : up S.1 p true q = true := ht
    rw [up_ne c] at ht' ⊢
    exact k6 q hq ht'
theorem MI.setP {h h' : mH} {S : ST} {sz lz : Nat} {li kd : Int32} {A : List Nat} (I : MI h S sz li lz kd) {p : Nat} {l : List Nat} (x : hx A h h') (hA : ∀ q ∈ A, q = 48 ∨ q = 49) (r8 : K48 h' S.1 (up S.2.1 p l)) (r9 : K49 h' S.1 (up S.2.1 p l)) (ol : okl l) : MI h' (s_P S p l) sz li lz kd := by
  obtain ⟨e0, k1, k2, k3, k4, k5, k6, k7⟩ := I
  have n : ∀ q, q ≠ 48 → q ≠ 49 → q ∉ A := fun q a b z => by have := hA q z; omega
  refine ⟨x.at (n _ (by decide) (by decide)) e0, k1.at x (n _ (by decide) (by decide)), r8, r9, k4.at x (n _ (by decide) (by decide)) (n _ (by decide) (by decide)), k5.at x (fun q l => n q (by omega) (by omega)), fun q hq ht => ?_, k7⟩
  by_cases c : q = p
  · subst c
    show okl (up S.2.1 q l q)
    rw [up_eq]; exact ol
  · show okl (up S.2.1 p l q)
    rw [up_ne c]
    exact k6 q hq ht
theorem K48_up {h : mH} {T : Nat → Bool} {P : Nat → List Nat} {F : Nat → Int32} {p : Nat} {l : List Nat} (f : ∀ q, q < 12 → F q = (if T q = true then nI (P q).length else -9)) (ht : T p = true) (e : hc h 48 = some (aK 12 (up F p (nI l.length)))) : K48 h T (up P p l) := by
  refine ⟨_, e, fun q hq => ?_⟩
  by_cases c : q = p
  · rw [c, up_eq, up_eq, if_pos ht]
  · rw [up_ne c, up_ne c, f q hq]
theorem K49_up {h : mH} {T : Nat → Bool} {P : Nat → List Nat} {F G : Nat → Nat} {p : Nat} {l : List Nat} (hl : l.length ≤ 18) (hP : ∀ q, q < 12 → T q = true → (P q).length ≤ 18) (f : ∀ q, q < 12 → T q = true → ∀ i, i < (P q).length → F (18 * q + i) = (P q).getD i 0) (o : ∀ x, (x < 18 * p ∨ 18 * p + 18 ≤ x) → G x = F x) (r : ∀ i, i < l.length → G (18 * p + i) = l.getD i 0) (e : hc h 49 = some (aI 216 G)) : K49 h T (up P p l) := by
  refine ⟨_, e, fun q hq ht i hi => ?_⟩
  by_cases c : q = p
  · subst c
    rw [up_eq] at hi ⊢
    exact r i hi
  · rw [up_ne c] at hi ⊢
    have := hP q hq ht
    rw [o _ (by omega)]
    exact f q hq ht i hi
section MPUT
variable {g : mG} {h : mH} {Q : Option Value → mH → Prop} {S : ST} {sz lz : Nat} {li kd : Int32}
theorem p_X5_parting {p : Int32} (I : IM h S) (k : ∀ h', fM h h' → IM h' (sp_parting S p).2 → Q (some (.int (sp_parting S p).1)) h') : Ok g MX5_parting (m_J g MX5_parting Q) 0 [some (.ref 46), some (.int p), none] [] h 0 0 := by
  obtain ⟨sz, li, lz, kd, I⟩ := I
  obtain ⟨e0, -, ⟨F, e1, f1⟩, ⟨G, e2, g2⟩, -, -, k6, -⟩ := id I
  unfold sp_parting at k
  refine ok_iload_n dX5_parting_0 rfl ?_
  refine call_X5_isParting dX5_parting_1 lk_X5_73 ⟨Nat.le_of_ble_eq_true rfl, Nat.le_of_ble_eq_true rfl, Nat.le_of_ble_eq_true rfl⟩ (Nat.le_of_ble_eq_true rfl) ?_
  refine c_X5_isParting (fun j q1 q2 q3 => ?_) (fun q => ?_)
  · rw [q1] at k
    dsimp only at k
    subst q3
    have rest : ∀ (v : Nat), (if S.1 j = true then nI 1 else nI 0) = nI v → Ok g MX5_parting (m_J g MX5_parting Q) 24 [some (.ref 46), some (.int (nI j)), some (.int (nI v))] [] h 0 0 := by
      intro v ev
      refine ok_aload_n dX5_parting_24 rfl rfl ?_
      refine ok_get dX5_parting_25 fl_X5_13 (by assumption) (by rfl) ?_
      refine ok_iload_n dX5_parting_28 rfl ?_
      refine ok_iconst (v := nI 0) dX5_parting_29 (by decide) ?_
      first | refine okN_iast dX5_parting_30 (by assumption) (by omega) (by decide) (fun h1 hx1 he1 => ?_) | refine okC_iast dX5_parting_30 (by assumption) (by omega) (by omega) (by omega) (fun h1 hx1 he1 => ?_) | refine okF_iast dX5_parting_30 (by assumption) (by omega) (by omega) (fun h1 hx1 he1 => ?_) | refine okN_kast dX5_parting_30 (by assumption) (by omega) (by decide) (fun h1 hx1 he1 => ?_)
      refine ok_iload_n dX5_parting_31 rfl ?_
      refine ok_iret dX5_parting_32 rfl rfl ⟨Nat.le_of_ble_eq_true rfl, Nat.le_of_ble_eq_true rfl⟩ ?_
      rw [ev] at k
      refine k h1 (hx1.m (by decide)) ⟨_, _, _, _, I.setTP hx1 (by decide) ⟨_, he1, fun q hq => ?_⟩ ⟨G, hx1.at (by decide) e2, fun q hq ht i hi => ?_⟩ okl_nil⟩
      · by_cases c : q = j
        · rw [c, up_eq, up_eq, up_eq, if_pos rfl]; rfl
        · rw [up_ne c, up_ne c, up_ne c, f1 q hq]
      · by_cases c : q = j
        · rw [c, up_eq] at hi; simp at hi
        · rw [up_ne c] at hi ht ⊢
          exact g2 q hq ht i hi
    refine okN_if_ne (tgt := 9) dX5_parting_4 (by decide) (by omega) (fun c1 => ?_) (fun c1 => ?_)
    · refine ok_aload_n dX5_parting_9 rfl rfl ?_
      refine ok_get dX5_parting_10 fl_X5_13 (by assumption) (by rfl) ?_
      refine ok_iload_n dX5_parting_13 rfl ?_
      first | refine okN_iald dX5_parting_14 (by assumption) (by omega) (by decide) ?_ | refine okF_iald dX5_parting_14 (by assumption) (by omega) (by omega) ?_ | refine okN_kald dX5_parting_14 (by assumption) (by omega) (by decide) ?_
      rw [f1 j q2]
      cases ht : S.1 j with
      | true =>
        rw [if_pos rfl]
        have hl := (k6 j q2 ht).len
        refine okN_if_lt (tgt := 22) dX5_parting_15 (by decide) (by omega) ?_
        refine ok_iconst (v := nI 1) dX5_parting_18 (by decide) ?_
        refine ok_goto (tgt := 23) dX5_parting_19 (by decide) ?_
        refine ok_istore_n dX5_parting_23 (st_3_2 rfl) (Nat.le_of_ble_eq_true rfl) ?_
        exact rest 1 (by rw [ht]; rfl)
      | false =>
        rw [if_neg (by decide)]
        refine ok_if_lt (tgt := 22) dX5_parting_15 (by decide) (fun c2 => ?_) (fun c2 => ?_)
        · refine ok_iconst (v := nI 0) dX5_parting_22 (by decide) ?_
          refine ok_istore_n dX5_parting_23 (st_3_2 rfl) (Nat.le_of_ble_eq_true rfl) ?_
          exact rest 0 (by rw [ht]; rfl)
        · exact absurd (by decide) c2
    · exact absurd c1 (by decide)
  · rw [q] at k
    refine okN_if_ne (tgt := 9) dX5_parting_4 (by decide) (by omega) (fun c1 => ?_) (fun c1 => ?_)
    · exact absurd c1 (by decide)
    · refine ok_iconst (v := -1) dX5_parting_7 (by decide) ?_
      refine ok_iret dX5_parting_8 rfl rfl ⟨Nat.le_of_ble_eq_true rfl, Nat.le_of_ble_eq_true rfl⟩ ?_
      exact k h fM.rf ⟨_, _, _, _, I⟩
theorem l_X5_put {p m : Nat} {l : List Nat} {F : Nat → Int32} {G0 : Nat → Nat} (hp : p < 12) (hl : okl l) (hm : 1 ≤ m) (hs : m + l.sum ≤ 18)
    (k : ∀ h' G, hx [48, 49] h h' → hc h' 48 = some (aK 12 (up F p (nI (ins m l).length))) → hc h' 49 = some (aI 216 G) → (∀ x, (x < 18 * p ∨ 18 * p + 18 ≤ x) → G x = G0 x) → (∀ i, i < (ins m l).length → G (18 * p + i) = (ins m l).getD i 0) → Q none h') (hF : F p = nI l.length) {fi : Nat} {wk : Int64} {ru : Nat} :
    ∀ (i : Nat) (h1 : mH) (G : Nat → Nat), hx [49] h h1 → hc h1 46 = some (mdo fi wk ru sz li lz kd) → hc h1 48 = some (aK 12 F) → hc h1 49 = some (aI 216 G) → (∀ x, (x < 18 * p ∨ 18 * p + 18 ≤ x) → G x = G0 x) → i ≤ l.length → (∀ j, j < i → G (18 * p + j) = l.getD j 0) → (∀ j, i ≤ j → j < l.length → G (18 * p + (j + 1)) = l.getD j 0) → (∀ j, i ≤ j → j < l.length → l.getD j 0 < m) →
    Ok g MX5_put (m_J g MX5_put Q) 7 [some (.ref 46), some (.int (nI p)), some (.int (nI m)), some (.int (nI i))] [] h1 0 0 := by
  have hlen := hl.len
  have hlen2 := len_sum l hl.2.1
  have fin : ∀ (i : Nat) (h1 : mH) (G : Nat → Nat), hx [49] h h1 → hc h1 46 = some (mdo fi wk ru sz li lz kd) → hc h1 48 = some (aK 12 F) → hc h1 49 = some (aI 216 G) → (∀ x, (x < 18 * p ∨ 18 * p + 18 ≤ x) → G x = G0 x) → i ≤ l.length → (∀ j, j < i → G (18 * p + j) = l.getD j 0) → (∀ j, i ≤ j → j < l.length → G (18 * p + (j + 1)) = l.getD j 0) → (∀ j, i ≤ j → j < l.length → l.getD j 0 < m) → (∀ q, q < i → m ≤ l.getD q 0) →
      Ok g MX5_put (m_J g MX5_put Q) 58 [some (.ref 46), some (.int (nI p)), some (.int (nI m)), some (.int (nI i))] [] h1 0 0 := by
    intro i h1 G x1 e0 e8 e9 ho hi g1 g2 g3 g4
    refine ok_aload_n dX5_put_58 rfl rfl ?_
    refine ok_get dX5_put_59 fl_X5_16 (by assumption) (by rfl) ?_
    refine ok_bipush (v := nI 18) dX5_put_62 (by decide) ?_
    refine ok_iload_n dX5_put_64 rfl ?_
    first | refine okN_imul dX5_put_65 ?_ | refine ok_imul dX5_put_65 ?_
    refine ok_iload_n dX5_put_66 rfl ?_
    first | refine okN_iadd dX5_put_67 ?_ | refine ok_iadd dX5_put_67 ?_
    refine ok_iload_n dX5_put_68 rfl ?_
    first | refine okN_iast dX5_put_69 (by assumption) (by omega) (by decide) (fun h2 hx2 he2 => ?_) | refine okC_iast dX5_put_69 (by assumption) (by omega) (by omega) (by omega) (fun h2 hx2 he2 => ?_) | refine okF_iast dX5_put_69 (by assumption) (by omega) (by omega) (fun h2 hx2 he2 => ?_) | refine okN_kast dX5_put_69 (by assumption) (by omega) (by decide) (fun h2 hx2 he2 => ?_)
    have e02 := hx2.at (by decide) e0
    have e82 := hx2.at (by decide) e8
    refine ok_aload_n dX5_put_70 rfl rfl ?_
    refine ok_get dX5_put_71 fl_X5_13 (by assumption) (by rfl) ?_
    refine ok_iload_n dX5_put_74 rfl ?_
    refine ok_dup2 dX5_put_75 rfl rfl ?_
    first | refine okN_iald dX5_put_76 (by assumption) (by omega) (by decide) ?_ | refine okF_iald dX5_put_76 (by assumption) (by omega) (by omega) ?_ | refine okN_kald dX5_put_76 (by assumption) (by omega) (by decide) ?_
    rw [hF]
    refine ok_iconst (v := nI 1) dX5_put_77 (by decide) ?_
    first | refine okN_iadd dX5_put_78 ?_ | refine ok_iadd dX5_put_78 ?_
    first | refine okN_iast dX5_put_79 (by assumption) (by omega) (by decide) (fun h3 hx3 he3 => ?_) | refine okC_iast dX5_put_79 (by assumption) (by omega) (by omega) (by omega) (fun h3 hx3 he3 => ?_) | refine okF_iast dX5_put_79 (by assumption) (by omega) (by omega) (fun h3 hx3 he3 => ?_) | refine okN_kast dX5_put_79 (by assumption) (by omega) (by decide) (fun h3 hx3 he3 => ?_)
    refine ok_vret dX5_put_80 rfl ⟨Nat.le_of_ble_eq_true rfl, Nat.le_of_ble_eq_true rfl⟩ ?_
    refine k h3 _ ((x1.tr hx2 (C := [48, 49]) (by simp) (by simp)).tr hx3 (by simp) (by simp)) (by rw [ins_len]; exact he3) (hx3.at (by decide) he2) (fun x hxx => ?_) (fun j hj => ?_)
    · rw [up_ne (by omega)]; exact ho x hxx
    · rw [ins_len] at hj
      rw [ins_get m l i j hi g4 g3 hj]
      by_cases d : j < i
      · rw [if_pos d, up_ne (by omega), g1 j d]
      · rw [if_neg d]
        by_cases e : j = i
        · rw [if_pos e, e, up_eq]
        · rw [if_neg e, up_ne (by omega)]
          obtain ⟨j', rfl⟩ : ∃ j', j = j' + 1 := ⟨j - 1, by omega⟩
          exact g2 j' (by omega) (by omega)
  intro i
  induction i with
  | zero =>
    intro h1 G x1 e0 e8 e9 ho hi g1 g2 g3
    refine ok_iload_n dX5_put_7 rfl ?_
    refine okN_if_le (tgt := 58) dX5_put_8 (by decide) (by omega) (fun c1 => ?_) (fun c1 => ?_)
    · exact fin 0 h1 G x1 e0 e8 e9 ho hi g1 g2 g3 (fun q hq => by omega)
    · exact absurd c1 (by omega)
  | succ i ih =>
    intro h1 G x1 e0 e8 e9 ho hi g1 g2 g3
    have gi := g1 i (by omega)
    have gb := gd_sum l i
    refine ok_iload_n dX5_put_7 rfl ?_
    refine okN_if_le (tgt := 58) dX5_put_8 (by decide) (by omega) (fun c1 => ?_) (fun c1 => ?_)
    · exact absurd c1 (by omega)
    · refine ok_aload_n dX5_put_11 rfl rfl ?_
      refine ok_get dX5_put_12 fl_X5_16 (by assumption) (by rfl) ?_
      refine ok_bipush (v := nI 18) dX5_put_15 (by decide) ?_
      refine ok_iload_n dX5_put_17 rfl ?_
      first | refine okN_imul dX5_put_18 ?_ | refine ok_imul dX5_put_18 ?_
      refine ok_iload_n dX5_put_19 rfl ?_
      first | refine okN_iadd dX5_put_20 ?_ | refine ok_iadd dX5_put_20 ?_
      refine ok_iconst (v := nI 1) dX5_put_21 (by decide) ?_
      first | refine okN_isub dX5_put_22 (by omega) ?_ | refine ok_isub dX5_put_22 ?_
      first | refine okN_iald dX5_put_23 (by assumption) (by omega) (by decide) ?_ | refine okF_iald dX5_put_23 (by assumption) (by omega) (by omega) ?_ | refine okN_kald dX5_put_23 (by assumption) (by omega) (by decide) ?_
      rw [show 18 * p + (i + 1) - 1 = 18 * p + i by omega, gi]
      refine ok_iload_n dX5_put_24 rfl ?_
      refine okN_icmp_ge (tgt := 58) dX5_put_25 (by decide) (by omega) (by omega) (fun c2 => ?_) (fun c2 => ?_)
      · refine fin (i + 1) h1 G x1 e0 e8 e9 ho hi g1 g2 g3 (fun q hq => ?_)
        have := srt_get l q i hl.1 (by omega) (by omega)
        omega
      · refine ok_aload_n dX5_put_28 rfl rfl ?_
        refine ok_get dX5_put_29 fl_X5_16 (by assumption) (by rfl) ?_
        refine ok_bipush (v := nI 18) dX5_put_32 (by decide) ?_
        refine ok_iload_n dX5_put_34 rfl ?_
        first | refine okN_imul dX5_put_35 ?_ | refine ok_imul dX5_put_35 ?_
        refine ok_iload_n dX5_put_36 rfl ?_
        first | refine okN_iadd dX5_put_37 ?_ | refine ok_iadd dX5_put_37 ?_
        refine ok_aload_n dX5_put_38 rfl rfl ?_
        refine ok_get dX5_put_39 fl_X5_16 (by assumption) (by rfl) ?_
        refine ok_bipush (v := nI 18) dX5_put_42 (by decide) ?_
        refine ok_iload_n dX5_put_44 rfl ?_
        first | refine okN_imul dX5_put_45 ?_ | refine ok_imul dX5_put_45 ?_
        refine ok_iload_n dX5_put_46 rfl ?_
        first | refine okN_iadd dX5_put_47 ?_ | refine ok_iadd dX5_put_47 ?_
        refine ok_iconst (v := nI 1) dX5_put_48 (by decide) ?_
        first | refine okN_isub dX5_put_49 (by omega) ?_ | refine ok_isub dX5_put_49 ?_
        first | refine okN_iald dX5_put_50 (by assumption) (by omega) (by decide) ?_ | refine okF_iald dX5_put_50 (by assumption) (by omega) (by omega) ?_ | refine okN_kald dX5_put_50 (by assumption) (by omega) (by decide) ?_
        rw [show 18 * p + (i + 1) - 1 = 18 * p + i by omega]
        first | refine okN_iast dX5_put_51 (by assumption) (by omega) (by decide) (fun h2 hx2 he2 => ?_) | refine okC_iast dX5_put_51 (by assumption) (by omega) (by omega) (by omega) (fun h2 hx2 he2 => ?_) | refine okF_iast dX5_put_51 (by assumption) (by omega) (by omega) (fun h2 hx2 he2 => ?_) | refine okN_kast dX5_put_51 (by assumption) (by omega) (by decide) (fun h2 hx2 he2 => ?_)
        refine okN_dec dX5_put_52 rfl (by omega) (st_4_3 rfl) (Nat.le_of_ble_eq_true rfl) ?_
        refine ok_goto (tgt := 7) dX5_put_55 (by decide) ?_
        refine ih h2 _ (x1.tr' hx2) (hx2.at (by decide) e0) (hx2.at (by decide) e8) he2 (fun x hxx => ?_) (by omega) (fun j hj => ?_) (fun j h3 h4 => ?_) (fun j h3 h4 => ?_)
        · rw [up_ne (by omega)]; exact ho x hxx
        · rw [up_ne (by omega), g1 j (by omega)]
        · by_cases e : j = i
          · subst e; rw [up_eq, gi]
          · rw [up_ne (by omega)]
            exact g2 j (by omega) h4
        · by_cases e : j = i
          · subst e; exact c2
          · exact g3 j (by omega) h4
theorem c_X5_put {p m : Nat} (I : MI h S sz li lz kd) (hp : p < 12) (ht : S.1 p = true) (hm : 1 ≤ m) (hs : m + (S.2.1 p).sum ≤ 18) (k : ∀ h', hx [48, 49] h h' → MI h' (s_P S p (ins m (S.2.1 p))) sz li lz kd → Q none h') : Ok g MX5_put (m_J g MX5_put Q) 0 [some (.ref 46), some (.int (nI p)), some (.int (nI m)), none] [] h 0 0 := by
  obtain ⟨e0, -, ⟨F, e1, f1⟩, ⟨G, e2, g2⟩, -, -, k6, -⟩ := id I
  have ol := k6 p hp ht
  have oi := okl_ins ol hm hs
  refine ok_aload_n dX5_put_0 rfl rfl ?_
  refine ok_get dX5_put_1 fl_X5_13 (by assumption) (by rfl) ?_
  refine ok_iload_n dX5_put_4 rfl ?_
  first | refine okN_iald dX5_put_5 (by assumption) (by omega) (by decide) ?_ | refine okF_iald dX5_put_5 (by assumption) (by omega) (by omega) ?_ | refine okN_kald dX5_put_5 (by assumption) (by omega) (by decide) ?_
  rw [f1 p hp, if_pos ht]
  refine ok_istore_n dX5_put_6 (st_4_3 rfl) (Nat.le_of_ble_eq_true rfl) ?_
  refine l_X5_put (h := h) (F := F) (G0 := G) hp ol hm hs (fun h' G' x e8 e9 o r => ?_) (by rw [f1 p hp, if_pos ht]) _ h G hx.rf e0 e1 e2 (fun x _ => rfl) (Nat.le_refl _) (fun j hj => g2 p hp ht j hj) (fun j h1 h2 => by omega) (fun j h1 h2 => by omega)
  exact k h' x (I.setP x (by decide) (K48_up f1 ht e8) (K49_up oi.len (fun q hq t => (k6 q hq t).len) g2 o r e9) oi)
theorem p_X5_heap {p c : Int32} (I : IM h S) (k : ∀ h', fM h h' → IM h' (sp_heap S p c).2 → Q (some (.int (sp_heap S p c).1)) h') : Ok g MX5_heap (m_J g MX5_heap Q) 0 [some (.ref 46), some (.int p), some (.int c), none] [] h 0 0 := by
  obtain ⟨sz, li, lz, kd, I⟩ := I
  have e0 := I.1
  unfold sp_heap ofp at k
  refine ok_iload_n dX5_heap_0 rfl ?_
  refine ok_iconst (v := nI 1) dX5_heap_1 (by decide) ?_
  refine ok_bipush (v := nI 18) dX5_heap_2 (by decide) ?_
  refine call_X5_in dX5_heap_4 lk_X5_69 ⟨Nat.le_of_ble_eq_true rfl, Nat.le_of_ble_eq_true rfl, Nat.le_of_ble_eq_true rfl⟩ (Nat.le_of_ble_eq_true rfl) ?_
  have bad : c18 c = none → Ok g MX5_heap (m_J g MX5_heap Q) 10 [some (.ref 46), some (.int p), some (.int c), none] [] h 0 0 := by
    intro e
    rw [e] at k
    refine ok_iconst (v := -1) dX5_heap_10 (by decide) ?_
    refine ok_iret dX5_heap_11 rfl rfl ⟨Nat.le_of_ble_eq_true rfl, Nat.le_of_ble_eq_true rfl⟩ ?_
    exact k h fM.rf ⟨_, _, _, _, I⟩
  refine c_X5_in (by decide) (by decide) (fun a1 a2 => ?_) (fun a => ?_)
  · refine okN_if_ne (tgt := 12) dX5_heap_7 (by decide) (by omega) (fun c1 => ?_) (fun c1 => ?_)
    · rcases pl_cases 19 c (by decide) with e | ⟨m, e, hm, rfl⟩
      · have := pl_not e
        omega
      · rw [nI_toInt (by omega)] at a1
        rw [c18_m (by omega) hm] at k
        dsimp only at k
        refine ok_aload_n dX5_heap_12 rfl rfl ?_
        refine ok_iload_n dX5_heap_13 rfl ?_
        refine call_X5_looked dX5_heap_14 lk_X5_81 ⟨Nat.le_of_ble_eq_true rfl, Nat.le_of_ble_eq_true rfl, Nat.le_of_ble_eq_true rfl⟩ (by assumption) (Nat.le_of_ble_eq_true rfl) ?_
        refine c_X5_looked I (fun q => ?_) (fun j h' q1 q2 x' I' => ?_) (fun j q1 q2 q3 q4 => ?_)
        · rw [q] at k
          refine ok_istore_n dX5_heap_17 (st_4_3 rfl) (Nat.le_of_ble_eq_true rfl) ?_
          refine ok_iload_n dX5_heap_18 rfl ?_
          refine ok_if_ge (tgt := 24) dX5_heap_19 (by decide) (fun c2 => ?_) (fun c2 => ?_)
          · exact absurd c2 (by decide)
          · refine ok_iload_n dX5_heap_22 rfl ?_
            refine ok_iret dX5_heap_23 rfl rfl ⟨Nat.le_of_ble_eq_true rfl, Nat.le_of_ble_eq_true rfl⟩ ?_
            exact k h fM.rf ⟨_, _, _, _, I⟩
        · rw [q1] at k
          dsimp only at k
          rw [if_neg (by rw [q2]; decide)] at k
          refine ok_istore_n dX5_heap_17 (st_4_3 rfl) (Nat.le_of_ble_eq_true rfl) ?_
          refine ok_iload_n dX5_heap_18 rfl ?_
          refine ok_if_ge (tgt := 24) dX5_heap_19 (by decide) (fun c2 => ?_) (fun c2 => ?_)
          · exact absurd c2 (by decide)
          · refine ok_iload_n dX5_heap_22 rfl ?_
            refine ok_iret dX5_heap_23 rfl rfl ⟨Nat.le_of_ble_eq_true rfl, Nat.le_of_ble_eq_true rfl⟩ ?_
            exact k h' (x'.m (by decide)) ⟨_, _, _, _, I'⟩
        · rw [q1] at k
          dsimp only at k
          rw [if_pos q4] at k
          subst q3
          have ol := I.2.2.2.2.2.2.1 j q2 q4
          have hsum := ol.2.2
          refine ok_istore_n dX5_heap_17 (st_4_3 rfl) (Nat.le_of_ble_eq_true rfl) ?_
          refine ok_iload_n dX5_heap_18 rfl ?_
          refine okN_if_ge (tgt := 24) dX5_heap_19 (by decide) (by omega) ?_
          refine ok_aload_n dX5_heap_24 rfl rfl ?_
          refine ok_iload_n dX5_heap_25 rfl ?_
          refine call_X5_cards dX5_heap_26 lk_X5_84 ⟨Nat.le_of_ble_eq_true rfl, Nat.le_of_ble_eq_true rfl, Nat.le_of_ble_eq_true rfl⟩ (by assumption) (Nat.le_of_ble_eq_true rfl) ?_
          refine c_X5_cards I q2 q4 ?_
          refine ok_iload_n dX5_heap_29 rfl ?_
          first | refine okN_iadd dX5_heap_30 ?_ | refine ok_iadd dX5_heap_30 ?_
          refine ok_bipush (v := nI 18) dX5_heap_31 (by decide) ?_
          refine okN_icmp_le (tgt := 39) dX5_heap_33 (by decide) (by omega) (by omega) (fun c3 => ?_) (fun c3 => ?_)
          · rw [if_pos (by omega)] at k
            refine ok_aload_n dX5_heap_39 rfl rfl ?_
            refine ok_iload_n dX5_heap_40 rfl ?_
            refine ok_iload_n dX5_heap_41 rfl ?_
            refine call_X5_put dX5_heap_42 lk_X5_87 ⟨Nat.le_of_ble_eq_true rfl, Nat.le_of_ble_eq_true rfl, Nat.le_of_ble_eq_true rfl⟩ (by assumption) (Nat.le_of_ble_eq_true rfl) ?_
            refine c_X5_put I q2 q4 (by omega) (by omega) (fun h1 x1 I1 => ?_)
            obtain ⟨e01, -, ⟨F, e1, f1⟩, -⟩ := id I1
            refine ok_aload_n dX5_heap_45 rfl rfl ?_
            refine ok_get dX5_heap_46 fl_X5_13 (by assumption) (by rfl) ?_
            refine ok_iload_n dX5_heap_49 rfl ?_
            first | refine okN_iald dX5_heap_50 (by assumption) (by omega) (by decide) ?_ | refine okF_iald dX5_heap_50 (by assumption) (by omega) (by omega) ?_ | refine okN_kald dX5_heap_50 (by assumption) (by omega) (by decide) ?_
            rw [f1 j q2, if_pos (show (s_P S j (ins m (S.2.1 j))).1 j = true from q4)]
            rw [show ((s_P S j (ins m (S.2.1 j))).2.1 j).length = (S.2.1 j).length + 1 by show (up S.2.1 j (ins m (S.2.1 j)) j).length = _; rw [up_eq, ins_len]]
            refine ok_iret dX5_heap_51 rfl rfl ⟨Nat.le_of_ble_eq_true rfl, Nat.le_of_ble_eq_true rfl⟩ ?_
            exact k h1 (x1.m (by decide)) ⟨_, _, _, _, I1⟩
          · rw [if_neg (by omega)] at k
            refine ok_bipush (v := -2) dX5_heap_36 (by decide) ?_
            refine ok_iret dX5_heap_38 rfl rfl ⟨Nat.le_of_ble_eq_true rfl, Nat.le_of_ble_eq_true rfl⟩ ?_
            exact k h fM.rf ⟨_, _, _, _, I⟩
    · exact absurd c1 (by decide)
  · refine okN_if_ne (tgt := 12) dX5_heap_7 (by decide) (by omega) (fun c1 => ?_) (fun c1 => ?_)
    · exact absurd c1 (by decide)
    · rcases pl_cases 19 c (by decide) with e | ⟨m, e, hm, rfl⟩
      · exact bad (c18_no e)
      · rw [nI_toInt (by omega)] at a
        have e1 : m = 0 := by omega
        subst e1
        exact bad c18_0
theorem p_X5_tear {p : Int32} (I : IM h S) (k : ∀ h', fM h h' → IM h' (sp_tear S p).2 → Q (some (.int (sp_tear S p).1)) h') : Ok g MX5_tear (m_J g MX5_tear Q) 0 [some (.ref 46), some (.int p), none] [] h 0 0 := by
  obtain ⟨sz, li, lz, kd, I⟩ := I
  have e0 := I.1
  unfold sp_tear ofp at k
  refine ok_aload_n dX5_tear_0 rfl rfl ?_
  refine ok_iload_n dX5_tear_1 rfl ?_
  refine call_X5_looked dX5_tear_2 lk_X5_81 ⟨Nat.le_of_ble_eq_true rfl, Nat.le_of_ble_eq_true rfl, Nat.le_of_ble_eq_true rfl⟩ (by assumption) (Nat.le_of_ble_eq_true rfl) ?_
  refine c_X5_looked I (fun q => ?_) (fun j h' q1 q2 x' I' => ?_) (fun j q1 q2 q3 q4 => ?_)
  · rw [q] at k
    refine ok_istore_n dX5_tear_5 (st_3_2 rfl) (Nat.le_of_ble_eq_true rfl) ?_
    refine ok_iload_n dX5_tear_6 rfl ?_
    refine ok_if_ge (tgt := 12) dX5_tear_7 (by decide) (fun c2 => ?_) (fun c2 => ?_)
    · exact absurd c2 (by decide)
    · refine ok_iload_n dX5_tear_10 rfl ?_
      refine ok_iret dX5_tear_11 rfl rfl ⟨Nat.le_of_ble_eq_true rfl, Nat.le_of_ble_eq_true rfl⟩ ?_
      exact k h fM.rf ⟨_, _, _, _, I⟩
  · rw [q1] at k
    dsimp only at k
    rw [if_neg (by rw [q2]; decide)] at k
    refine ok_istore_n dX5_tear_5 (st_3_2 rfl) (Nat.le_of_ble_eq_true rfl) ?_
    refine ok_iload_n dX5_tear_6 rfl ?_
    refine ok_if_ge (tgt := 12) dX5_tear_7 (by decide) (fun c2 => ?_) (fun c2 => ?_)
    · exact absurd c2 (by decide)
    · refine ok_iload_n dX5_tear_10 rfl ?_
      refine ok_iret dX5_tear_11 rfl rfl ⟨Nat.le_of_ble_eq_true rfl, Nat.le_of_ble_eq_true rfl⟩ ?_
      exact k h' (x'.m (by decide)) ⟨_, _, _, _, I'⟩
  · rw [q1] at k
    dsimp only at k
    rw [if_pos q4] at k
    subst q3
    obtain ⟨-, k1, ⟨F, e1, f1⟩, ⟨G, e2, g2⟩, k4, k5, k6, k7⟩ := id I
    refine ok_istore_n dX5_tear_5 (st_3_2 rfl) (Nat.le_of_ble_eq_true rfl) ?_
    refine ok_iload_n dX5_tear_6 rfl ?_
    refine okN_if_ge (tgt := 12) dX5_tear_7 (by decide) (by omega) ?_
    refine ok_aload_n dX5_tear_12 rfl rfl ?_
    refine ok_get dX5_tear_13 fl_X5_13 (by assumption) (by rfl) ?_
    refine ok_iload_n dX5_tear_16 rfl ?_
    refine ok_bipush (v := -9) dX5_tear_17 (by decide) ?_
    first | refine okN_iast dX5_tear_19 (by assumption) (by omega) (by decide) (fun h1 hx1 he1 => ?_) | refine okC_iast dX5_tear_19 (by assumption) (by omega) (by omega) (by omega) (fun h1 hx1 he1 => ?_) | refine okF_iast dX5_tear_19 (by assumption) (by omega) (by omega) (fun h1 hx1 he1 => ?_) | refine okN_kast dX5_tear_19 (by assumption) (by omega) (by decide) (fun h1 hx1 he1 => ?_)
    refine ok_iconst (v := nI 1) dX5_tear_20 (by decide) ?_
    refine ok_iret dX5_tear_21 rfl rfl ⟨Nat.le_of_ble_eq_true rfl, Nat.le_of_ble_eq_true rfl⟩ ?_
    refine k h1 (hx1.m (by decide)) ⟨_, _, _, _, hx1.at (by decide) e0, k1.at hx1 (by decide), ⟨_, he1, fun q hq => ?_⟩, ⟨G, hx1.at (by decide) e2, fun q hq ht => ?_⟩, k4.at hx1 (by decide) (by decide), k5.at hx1 (fun q l => by simp <;> omega), fun q hq ht => ?_, k7⟩
    · show _ = (if up S.1 j false q = true then _ else _)
      by_cases c : q = j
      · rw [c, up_eq, up_eq, if_neg (by decide)]
      · rw [up_ne c, up_ne c, f1 q hq]; rfl
    · have ht' : up S.1 j false q = true := ht
      by_cases c : q = j
      · rw [c, up_eq] at ht'; cases ht'
      · rw [up_ne c] at ht'; exact g2 q hq ht'
    · have ht' : up S.1 j false q = true := ht
      by_cases c : q = j
      · rw [c, up_eq] at ht'; cases ht'
      · rw [up_ne c] at ht'; exact k6 q hq ht'
theorem p_X5_rule {r : Int32} (I : IM h S) (k : ∀ h', fM h h' → IM h' (sp_rule S r).2 → Q (some (.int (sp_rule S r).1)) h') : Ok g MX5_rule (m_J g MX5_rule Q) 0 [some (.ref 46), some (.int r), none] [] h 0 0 := by
  obtain ⟨sz, li, lz, kd, I⟩ := I
  obtain ⟨e0, k1, k2, k3, k4, k5, k6, k7⟩ := id I
  unfold sp_rule at k
  refine ok_iload_n dX5_rule_0 rfl ?_
  refine ok_iconst (v := nI 0) dX5_rule_1 (by decide) ?_
  refine ok_iconst (v := nI 3) dX5_rule_2 (by decide) ?_
  refine call_X5_in dX5_rule_3 lk_X5_69 ⟨Nat.le_of_ble_eq_true rfl, Nat.le_of_ble_eq_true rfl, Nat.le_of_ble_eq_true rfl⟩ (Nat.le_of_ble_eq_true rfl) ?_
  refine c_X5_inP (n := 4) (by decide) (by decide) (fun j q1 q2 q3 => ?_) (fun q => ?_)
  · rw [q1] at k
    dsimp only at k
    subst q3
    refine okN_if_ne (tgt := 11) dX5_rule_6 (by decide) (by omega) (fun c1 => ?_) (fun c1 => ?_)
    · refine ok_aload_n dX5_rule_11 rfl rfl ?_
      refine ok_get dX5_rule_12 fl_X5_91 (by assumption) (by rfl) ?_
      refine ok_istore_n dX5_rule_15 (st_3_2 rfl) (Nat.le_of_ble_eq_true rfl) ?_
      refine ok_aload_n dX5_rule_16 rfl rfl ?_
      refine ok_iload_n dX5_rule_17 rfl ?_
      refine okR_put dX5_rule_18 fl_X5_91 (by assumption) (Nat.le_of_ble_eq_true rfl) (fun _ => ⟨rfl, rfl⟩) set_24_3 (fun h1 hx1 he1 => ?_)
      refine ok_iload_n dX5_rule_21 rfl ?_
      refine ok_iret dX5_rule_22 rfl rfl ⟨Nat.le_of_ble_eq_true rfl, Nat.le_of_ble_eq_true rfl⟩ ?_
      exact k h1 (hx1.m (by decide)) ⟨_, _, _, _, he1, k1.at hx1 (by decide), k2.at hx1 (by decide), k3.at hx1 (by decide), k4.at hx1 (by decide) (by decide), k5.at hx1 (fun q l => by simp <;> omega), k6, q2⟩
    · exact absurd c1 (by decide)
  · rw [q] at k
    refine okN_if_ne (tgt := 11) dX5_rule_6 (by decide) (by omega) (fun c1 => ?_) (fun c1 => ?_)
    · exact absurd c1 (by decide)
    · refine ok_iconst (v := -1) dX5_rule_9 (by decide) ?_
      refine ok_iret dX5_rule_10 rfl rfl ⟨Nat.le_of_ble_eq_true rfl, Nat.le_of_ble_eq_true rfl⟩ ?_
      exact k h fM.rf ⟨_, _, _, _, I⟩
theorem p_X5_finding (I : IM h S) (k : Q (some (.int (sp_finding S).1)) h) : Ok g MX5_finding (m_J g MX5_finding Q) 0 [some (.ref 46)] [] h 0 0 := by
  obtain ⟨sz, li, lz, kd, I⟩ := I
  have e0 := I.1
  refine ok_aload_n dX5_finding_0 rfl rfl ?_
  refine ok_get dX5_finding_1 fl_X5_66 (by assumption) (by rfl) ?_
  refine ok_iret dX5_finding_4 rfl rfl ⟨Nat.le_of_ble_eq_true rfl, Nat.le_of_ble_eq_true rfl⟩ ?_
  exact k
theorem p_X5_asked (I : IM h S) (k : Q (some (.long (sp_asked S))) h) : Ok g MX5_asked (m_J g MX5_asked Q) 0 [some (.ref 46)] [] h 0 0 := by
  obtain ⟨sz, li, lz, kd, I⟩ := I
  have e0 := I.1
  refine ok_aload_n dX5_asked_0 rfl rfl ?_
  refine ok_get dX5_asked_1 fl_X5_163 (by assumption) (by rfl) ?_
  refine ok_lret dX5_asked_4 rfl ⟨Nat.le_of_ble_eq_true rfl, Nat.le_of_ble_eq_true rfl⟩ ?_
  exact k
theorem p_X5_findings {f : Int32} (I : IM h S) (k : Q (some (.int (sp_findings S f).1)) h) : Ok g MX5_findings (m_J g MX5_findings Q) 0 [some (.ref 46), some (.int f)] [] h 0 0 := by
  obtain ⟨sz, li, lz, kd, I⟩ := I
  obtain ⟨e0, ⟨F, e1, f1⟩, -⟩ := id I
  unfold sp_findings at k
  refine ok_iload_n dX5_findings_0 rfl ?_
  refine ok_iconst (v := nI 1) dX5_findings_1 (by decide) ?_
  refine ok_iconst (v := nI 5) dX5_findings_2 (by decide) ?_
  refine call_X5_in dX5_findings_3 lk_X5_69 ⟨Nat.le_of_ble_eq_true rfl, Nat.le_of_ble_eq_true rfl, Nat.le_of_ble_eq_true rfl⟩ (Nat.le_of_ble_eq_true rfl) ?_
  refine c_X5_in (by decide) (by decide) (fun a1 a2 => ?_) (fun a => ?_)
  · rcases pl_cases 6 f (by decide) with e | ⟨x, e, hx5, rfl⟩
    · have := pl_not e
      omega
    · rw [nI_toInt (by omega)] at a1
      rw [e] at k
      dsimp only at k
      rw [if_neg (by omega)] at k
      refine okN_if_eq (tgt := 18) dX5_findings_6 (by decide) (by omega) (fun c1 => ?_) (fun c1 => ?_)
      · exact absurd c1 (by decide)
      · refine ok_aload_n dX5_findings_9 rfl rfl ?_
        refine ok_get dX5_findings_10 fl_X5_7 (by assumption) (by rfl) ?_
        refine ok_iload_n dX5_findings_13 rfl ?_
        first | refine okN_iald dX5_findings_14 (by assumption) (by omega) (by decide) ?_ | refine okF_iald dX5_findings_14 (by assumption) (by omega) (by omega) ?_ | refine okN_kald dX5_findings_14 (by assumption) (by omega) (by decide) ?_
        rw [f1 x hx5]
        refine ok_goto (tgt := 19) dX5_findings_15 (by decide) ?_
        refine ok_iret dX5_findings_19 rfl rfl ⟨Nat.le_of_ble_eq_true rfl, Nat.le_of_ble_eq_true rfl⟩ ?_
        exact k
  · refine okN_if_eq (tgt := 18) dX5_findings_6 (by decide) (by omega) (fun c1 => ?_) (fun c1 => ?_)
    · refine ok_iconst (v := -1) dX5_findings_18 (by decide) ?_
      refine ok_iret dX5_findings_19 rfl rfl ⟨Nat.le_of_ble_eq_true rfl, Nat.le_of_ble_eq_true rfl⟩ ?_
      rcases pl_cases 6 f (by decide) with e | ⟨x, e, hx5, rfl⟩
      · rw [e] at k; exact k
      · rw [nI_toInt (by omega)] at a
        rw [e] at k
        dsimp only at k
        rw [if_pos (by omega)] at k
        exact k
    · exact absurd c1 (by decide)
end MPUT
