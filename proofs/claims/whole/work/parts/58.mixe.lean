/-! ===== the class's calls on gifts ===== -/
def sp_ways (S : ST) (p q : Int32) : RS := of2 S p q (fun i j => (nI (if (S.2.1 i).sum = (S.2.1 j).sum then WT (S.2.1 i) (nb (S.2.1 j)) else 0), S))
def sp_reach (S : ST) (p : Int32) : RS := ofp S p (fun j => (nI (rcN (S.2.1 j)), S))
def sp_walks (S : ST) (p q kk : Int32) : RS := match pl 4 kk with
  | none => (-1, S)
  | some m => of2 S p q (fun i j => (nI 1, s_wk S (if (S.2.1 i).sum = (S.2.1 j).sum then wkT (S.2.1 i).sum (nb (S.2.1 i)) m (nb (S.2.1 j)) else 0)))
def I5p (h : mH) (nw lt : Nat) : Prop := ((nw = 15 ∧ lt = 16) ∨ (nw = 16 ∧ lt = 15)) ∧ hc h 6 = some (mxo nw lt) ∧ hc h 7 = some (aI 361 choF) ∧ cI h 8 20 ∧ cI h 9 20 ∧ cI h 10 20 ∧ Sp h 11 12 ∧ Sp h 13 14 ∧ cJ h nw 385 ∧ cJ h lt 385
theorem I5p.to {h : mH} {nw lt : Nat} (r : I5p h nw lt) : I5 h := by
  obtain ⟨a, b, c, d, e, f, s1, s2, j1, j2⟩ := r
  rcases a with ⟨rfl, rfl⟩ | ⟨rfl, rfl⟩
  · exact ⟨⟨15, 16, Or.inl ⟨rfl, rfl⟩, b⟩, c, d, e, f, s1, s2, j1, j2⟩
  · exact ⟨⟨16, 15, Or.inr ⟨rfl, rfl⟩, b⟩, c, d, e, f, s1, s2, j2, j1⟩
theorem I5.pp {h : mH} (r : I5 h) : ∃ nw lt, I5p h nw lt := by
  obtain ⟨⟨u, v, a, b⟩, c, d, e, f, s1, s2, j1, j2⟩ := r
  refine ⟨u, v, a, b, c, d, e, f, s1, s2, ?_, ?_⟩
  · rcases a with ⟨rfl, rfl⟩ | ⟨rfl, rfl⟩
    · exact j1
    · exact j2
  · rcases a with ⟨rfl, rfl⟩ | ⟨rfl, rfl⟩
    · exact j2
    · exact j1
abbrev mxA : List Nat := [6, 8, 9, 10, 11, 12, 13, 14, 15, 16]
theorem mxA_m {A : List Nat} {h h' : mH} (x : hx A h h') (hA : ∀ q ∈ A, q ∈ mxA) : hx mxA h h' := x.mono hA
theorem IX.set5 {h h' : mH} {S : ST} (I : IX h S) (x : hx mxA h h') (i : I5 h') : IX h' S := by
  obtain ⟨e0, hr, i1, i2, i3, i4, i5, i6, i7, i7', i8⟩ := I
  have w := x.w
  exact ⟨w.at (by decide) e0, hr, i1.w w (by decide), i2.w w (by decide), i3.w w (by decide), i4.w w (by decide) (by decide), i, i6.w w (by decide) (by decide), i7.w w (by decide) (by decide), i7'.w w (by decide) (by decide), i8.w w (fun q l1 l2 => by simp <;> omega)⟩
section MIXE
variable {g : mG} {h : mH} {Q : Option Value → mH → Prop} {S : ST}
theorem l_X2_cos1 {ra rb sa n f len kk : Nat} (hn : n < 19) (hf : f < cap n n) (hra : 22 ≤ ra) (hrb : 22 ≤ rb) (hk : kk < 2 ^ 31) {z7 z8 : Option Value}
    (k : ∀ h' nw lt A z6, hx mxA h h' → I5p h' nw lt → hc h' nw = some (aJ 385 A) → (∀ x, A x = wkT n f (kk - 1) x) → Ok g MX2_choicesOfSteps (m_J g MX2_choicesOfSteps Q) 85 [some (.ref 6), some (.ref 4), some (.ref ra), some (.ref sa), some (.int (nI kk)), some (.int (nI f)), z6, z7, z8] [] h' 0 0) :
    ∀ (d t : Nat) (h1 : mH) (nw lt : Nat) (A : Nat → Int64), t + 1 + d = kk → hx mxA h h1 → Ls h1 4 5 → I5p h1 nw lt → hc h1 nw = some (aJ 385 A) → (∀ x, A x = wkT n f t x) → hc h1 ra = some (rowc rb len n) → Ok g MX2_choicesOfSteps (m_J g MX2_choicesOfSteps Q) 63 [some (.ref 6), some (.ref 4), some (.ref ra), some (.ref sa), some (.int (nI kk)), some (.int (nI f)), some (.int (nI (t + 1))), z7, z8] [] h1 0 0 := by
  intro d
  induction d with
  | zero =>
    intro t h1 nw lt A ht x1 ls i5 en fA er
    refine ok_iload dX2_choicesOfSteps_63 rfl ?_
    refine ok_iload dX2_choicesOfSteps_65 rfl ?_
    refine okN_icmp_ge (tgt := 85) dX2_choicesOfSteps_67 (by decide) (by omega) (by omega) (fun c1 => ?_) (fun c1 => ?_)
    · rw [show kk - 1 = t by omega] at k
      exact k h1 nw lt A _ x1 i5 en fA
    · exact absurd c1 (by omega)
  | succ d ih =>
    intro t h1 nw lt A ht x1 ls i5 en fA er
    obtain ⟨a, ea, eb, c8, c9, c10, s1, s2, j1, j2⟩ := id i5
    have els := ls.1
    refine ok_iload dX2_choicesOfSteps_63 rfl ?_
    refine ok_iload dX2_choicesOfSteps_65 rfl ?_
    refine okN_icmp_ge (tgt := 85) dX2_choicesOfSteps_67 (by decide) (by omega) (by omega) (fun c1 => ?_) (fun c1 => ?_)
    · exact absurd c1 (by omega)
    · refine ok_aload_n dX2_choicesOfSteps_70 rfl rfl ?_
      refine ok_aload_n dX2_choicesOfSteps_71 rfl rfl ?_
      refine ok_aload_n dX2_choicesOfSteps_72 rfl rfl ?_
      refine ok_get dX2_choicesOfSteps_73 fl_X2_41 (by assumption) (by rfl) ?_
      refine call_X2_spreadAll dX2_choicesOfSteps_76 lk_X2_80 ⟨Nat.le_of_ble_eq_true rfl, Nat.le_of_ble_eq_true rfl, Nat.le_of_ble_eq_true rfl⟩ (by assumption) (Nat.le_of_ble_eq_true rfl) ?_
      refine c_X2_spreadAll hn a (fun j hj => by rw [fA j]; exact wkT_hi hn hf t j hj) ls ea eb c8 c9 s1 s2 en j2 (fun h2 T' x2 ea2 y1 y2 y3 y4 y5 y6 y7 => ?_)
      have hlt : lt = 15 ∨ lt = 16 := by omega
      refine okN_inc dX2_choicesOfSteps_79 rfl (st_9_6 rfl) (Nat.le_of_ble_eq_true rfl) ?_
      refine ok_goto (tgt := 63) dX2_choicesOfSteps_82 (by decide) ?_
      refine ih (t + 1) h2 lt nw T' (by omega) (x1.tr x2 (by simp) (by rcases hlt with rfl | rfl <;> decide)) (ls.at x2 (by simp <;> omega) (by simp <;> omega)) ⟨by omega, ea2, x2.at (by simp <;> omega) eb, y1, y2, c10.at x2 (by simp <;> omega), y3, y4, ⟨_, y6⟩, y5⟩ y6 (fun x => ?_) (x2.at (by simp <;> omega) er)
      have cl := cap_lt (n := n) (m := n) hn hn
      rw [y7 x, acT_cg fA 385 x]
      have m := acT_more (n := n) (m := cap n n) (A := wkT n f t) (fun j hj => wkT_hi hn hf t j hj) (385 - cap n n) x
      rw [show cap n n + (385 - cap n n) = 385 by omega] at m
      exact m
theorem l_X2_cos2 {ra rb sa sb n f len kk nw lt : Nat} {m : List Nat} {A : Nat → Int64} (hn : n < 19) (om : okl m) (hm : m.sum = n) (hra : 22 ≤ ra) (hsa : 22 ≤ sa) (hsb : 22 ≤ sb) (hA : ∀ j, cap n n ≤ j → A j = 0)
    (k : ∀ h', hx mxA h h' → I5p h' nw lt → Q (some (.long (acT n A 385 (nb m)))) h') :
    ∀ (d j : Nat) (h1 : mH), j + d = 385 → hx mxA h h1 → Ls h1 4 5 → I5p h1 nw lt → hc h1 nw = some (aJ 385 A) → hc h1 ra = some (rowc rb len n) → Rw h1 sa sb m → Ok g MX2_choicesOfSteps (m_J g MX2_choicesOfSteps Q) 91 [some (.ref 6), some (.ref 4), some (.ref ra), some (.ref sa), some (.int (nI kk)), some (.int (nI f)), some (.long (acT n A j (nb m))), none, some (.int (nI j))] [] h1 0 0 := by
  intro d
  induction d with
  | zero =>
    intro j h1 hj x1 ls i5 en er r2
    have ej : j = 385 := by omega
    subst ej
    refine ok_iload dX2_choicesOfSteps_91 rfl ?_
    refine ok_sipush (v := nI 385) dX2_choicesOfSteps_93 (by decide) ?_
    refine okN_icmp_ge (tgt := 154) dX2_choicesOfSteps_96 (by decide) (by omega) (by omega) (fun c1 => ?_) (fun c1 => ?_)
    · refine ok_lload dX2_choicesOfSteps_154 rfl ?_
      refine ok_lret dX2_choicesOfSteps_156 rfl ⟨Nat.le_of_ble_eq_true rfl, Nat.le_of_ble_eq_true rfl⟩ ?_
      exact k h1 x1 i5
    · exact absurd c1 (by omega)
  | succ d ih =>
    intro j h1 hj x1 ls i5 en er r2
    obtain ⟨a, ea, eb, c8, c9, c10, s1, s2, j1, j2⟩ := id i5
    have els := ls.1
    have nwr : nw = 15 ∨ nw = 16 := by omega
    have nxt : ∀ h2, hx mxA h h2 → Ls h2 4 5 → I5p h2 nw lt → hc h2 nw = some (aJ 385 A) → hc h2 ra = some (rowc rb len n) → Rw h2 sa sb m → Ok g MX2_choicesOfSteps (m_J g MX2_choicesOfSteps Q) 91 [some (.ref 6), some (.ref 4), some (.ref ra), some (.ref sa), some (.int (nI kk)), some (.int (nI f)), some (.long (acT n A j (nb m) + (if 0 < A j then A j * lN (WT (wr n j) (nb m)) else 0))), none, some (.int (nI (j + 1)))] [] h2 0 0 := fun h2 => ih (j + 1) h2 (by omega)
    refine ok_iload dX2_choicesOfSteps_91 rfl ?_
    refine ok_sipush (v := nI 385) dX2_choicesOfSteps_93 (by decide) ?_
    refine okN_icmp_ge (tgt := 154) dX2_choicesOfSteps_96 (by decide) (by omega) (by omega) (fun c1 => ?_) (fun c1 => ?_)
    · exact absurd c1 (by omega)
    · refine ok_aload_n dX2_choicesOfSteps_99 rfl rfl ?_
      refine ok_get dX2_choicesOfSteps_100 fl_X2_34 (by assumption) (by rfl) ?_
      refine ok_iload dX2_choicesOfSteps_103 rfl ?_
      refine okN_lald dX2_choicesOfSteps_105 (by assumption) (by omega) (by decide) ?_
      refine ok_lconst (v := 0) dX2_choicesOfSteps_106 (by decide) ?_
      refine ok_lcmp dX2_choicesOfSteps_107 ?_
      refine ok_if_le (tgt := 148) dX2_choicesOfSteps_108 (by decide) (fun c2 => ?_) (fun c2 => ?_)
      · rw [cg0] at c2
        rw [if_neg c2, Int64.add_zero] at nxt
        refine okN_inc dX2_choicesOfSteps_148 rfl (st_9_8 rfl) (Nat.le_of_ble_eq_true rfl) ?_
        refine ok_goto (tgt := 91) dX2_choicesOfSteps_151 (by decide) ?_
        exact nxt h1 x1 ls i5 en er r2
      · rw [cg0, Classical.not_not] at c2
        rw [if_pos c2] at nxt
        have hj2 : j < cap n n := by
          rcases Nat.lt_or_ge j (cap n n) with z | z
          · exact z
          · rw [hA j z] at c2; exact absurd c2 (by decide)
        have ow := wr_ok hn hj2
        have sw := (chk_W hn hj2).1
        obtain ⟨l1, o1, r1⟩ := s1
        have er1 := r1.1
        refine ok_aload_n dX2_choicesOfSteps_111 rfl rfl ?_
        refine ok_aload_n dX2_choicesOfSteps_112 rfl rfl ?_
        refine ok_get dX2_choicesOfSteps_113 fl_X2_27 (by assumption) (by rfl) ?_
        refine ok_aload_n dX2_choicesOfSteps_116 rfl rfl ?_
        refine ok_get dX2_choicesOfSteps_117 fl_X2_41 (by assumption) (by rfl) ?_
        refine ok_iload dX2_choicesOfSteps_120 rfl ?_
        refine call_X1_write dX2_choicesOfSteps_122 lk_X2_84 ⟨Nat.le_of_ble_eq_true rfl, Nat.le_of_ble_eq_true rfl, Nat.le_of_ble_eq_true rfl⟩ (by assumption) (Nat.le_of_ble_eq_true rfl) ?_
        refine c_X1_write ls r1 (by decide) (by decide) (by decide) (by decide) (by decide) hn (by omega) (fun h2 x2 r11 _ => ?_)
        have er2 := r11.1
        have ea2 := x2.at (by decide) ea
        have en2 := x2.at (by simp <;> omega) en
        have r22 := r2.at x2 (by simp <;> omega) (by simp <;> omega)
        refine ok_lload dX2_choicesOfSteps_125 rfl ?_
        refine ok_aload_n dX2_choicesOfSteps_127 rfl rfl ?_
        refine ok_get dX2_choicesOfSteps_128 fl_X2_34 (by assumption) (by rfl) ?_
        refine ok_iload dX2_choicesOfSteps_131 rfl ?_
        refine okN_lald dX2_choicesOfSteps_133 (by assumption) (by omega) (by decide) ?_
        refine ok_aload_n dX2_choicesOfSteps_134 rfl rfl ?_
        refine ok_aload_n dX2_choicesOfSteps_135 rfl rfl ?_
        refine ok_get dX2_choicesOfSteps_136 fl_X2_27 (by assumption) (by rfl) ?_
        refine ok_aload_n dX2_choicesOfSteps_139 rfl rfl ?_
        refine call_X2_choicesBetween dX2_choicesOfSteps_140 lk_X2_88 ⟨Nat.le_of_ble_eq_true rfl, Nat.le_of_ble_eq_true rfl, Nat.le_of_ble_eq_true rfl⟩ (by assumption) (Nat.le_of_ble_eq_true rfl) ?_
        refine c_X2_choicesBetween ow om ea2 (x2.at (by decide) eb) (c8.at x2 (by decide)) (c10.at x2 (by decide)) r11 r22 (by omega) (by omega) (fun h3 x3 y1 y2 => ?_)
        dsimp only [m_push]
        rw [if_pos (by rw [sw, hm])]
        refine ok_i2l dX2_choicesOfSteps_143 ?_
        have bb := cb_le (l := wr n j) (m := m) ow
        rw [cb_WT ow om (by rw [sw, hm])] at bb
        rw [nI_l bb]
        refine ok_lmul dX2_choicesOfSteps_144 ?_
        refine ok_ladd dX2_choicesOfSteps_145 ?_
        refine ok_lstore dX2_choicesOfSteps_146 (st2_9_6 rfl) (Nat.le_of_ble_eq_true rfl) ?_
        refine okN_inc dX2_choicesOfSteps_148 rfl (st_9_8 rfl) (Nat.le_of_ble_eq_true rfl) ?_
        refine ok_goto (tgt := 91) dX2_choicesOfSteps_151 (by decide) ?_
        have x13 : hx [8, 10, 11, 12] h1 h3 := x2.tr x3 (by simp) (by simp)
        exact nxt h3 (x1.tr x13 (by simp) (by simp)) (ls.at x13 (by decide) (by decide)) ⟨a, x13.at (by decide) ea, x13.at (by decide) eb, y1, c9.at x13 (by decide), y2, ⟨_, ow, r11.at x3 (by decide) (by decide)⟩, s2.w x13.w (by decide) (by decide), ⟨_, x13.at (by simp <;> omega) en⟩, by obtain ⟨T, ej⟩ := j2; exact ⟨T, x13.at (by simp <;> omega) ej⟩⟩ (x13.at (by simp <;> omega) en) (x13.at (by simp <;> omega) er) (r2.at x13 (by simp <;> omega) (by simp <;> omega))
theorem c_X2_choicesOfSteps {ra rb sa sb kk : Nat} {l m : List Nat} (ol : okl l) (om : okl m) (hs : l.sum = m.sum) (hk : kk < 2 ^ 31) (ls : Ls h 4 5) (i5 : I5 h) (r1 : Rw h ra rb l) (r2 : Rw h sa sb m) (hra : 22 ≤ ra) (hrb : 22 ≤ rb) (hsa : 22 ≤ sa) (hsb : 22 ≤ sb)
    (k : ∀ h', hx mxA h h' → I5 h' → Q (some (.long (wkT l.sum (nb l) kk (nb m)))) h') :
    Ok g MX2_choicesOfSteps (m_J g MX2_choicesOfSteps Q) 0 [some (.ref 6), some (.ref 4), some (.ref ra), some (.ref sa), some (.int (nI kk)), none, none, none, none] [] h 0 0 := by
  obtain ⟨nw, lt, i5⟩ := i5.pp
  obtain ⟨a, ea, eb, c8, c9, c10, s1, s2, ⟨A0, en⟩, j2⟩ := id i5
  have nwr : nw = 15 ∨ nw = 16 := by omega
  have s18 := ol.2.2
  have q3 := nb_lt ol
  have q4 := nb_lt om
  have cl := cap_lt (n := l.sum) (m := l.sum) (by omega) (by omega)
  have cl2 := cap_lt (n := m.sum) (m := m.sum) (by omega) (by omega)
  refine ok_aload_n dX2_choicesOfSteps_0 rfl rfl ?_
  refine ok_get dX2_choicesOfSteps_1 fl_X2_34 (by assumption) (by rfl) ?_
  refine ok_lconst (v := 0) dX2_choicesOfSteps_4 (by decide) ?_
  refine call_J7_fill_d0a16 dX2_choicesOfSteps_5 lk_X2_64 ⟨Nat.le_of_ble_eq_true rfl, Nat.le_of_ble_eq_true rfl, Nat.le_of_ble_eq_true rfl⟩ (Nat.le_of_ble_eq_true rfl) ?_
  refine c_J7_fillJ en (by decide) (fun h1 x1 en1 => ?_)
  have x1m : hx mxA h h1 := x1.mono (by rcases nwr with rfl | rfl <;> decide)
  have ls1 := ls.at x1 (by simp <;> omega) (by simp <;> omega)
  have els1 := ls1.1
  have r11 := r1.at x1 (by simp <;> omega) (by simp <;> omega)
  have r21 := r2.at x1 (by simp <;> omega) (by simp <;> omega)
  have er11 := r11.1
  have er21 := r21.1
  have ea1 := x1.at (by simp <;> omega) ea
  have i51 : I5p h1 nw lt := ⟨a, ea1, x1.at (by simp <;> omega) eb, c8.at x1 (by simp <;> omega), c9.at x1 (by simp <;> omega), c10.at x1 (by simp <;> omega), s1.w x1.w (by simp <;> omega) (by simp <;> omega), s2.w x1.w (by simp <;> omega) (by simp <;> omega), ⟨_, en1⟩, j2.at x1 (by simp <;> omega)⟩
  refine ok_aload_n dX2_choicesOfSteps_8 rfl rfl ?_
  refine ok_aload_n dX2_choicesOfSteps_9 rfl rfl ?_
  refine call_X1_numberOf dX2_choicesOfSteps_10 lk_X2_74 ⟨Nat.le_of_ble_eq_true rfl, Nat.le_of_ble_eq_true rfl, Nat.le_of_ble_eq_true rfl⟩ (by assumption) (Nat.le_of_ble_eq_true rfl) ?_
  refine c_X1_numberOf ls1 r11 ol ?_
  refine ok_istore dX2_choicesOfSteps_13 (st_9_5 rfl) (Nat.le_of_ble_eq_true rfl) ?_
  refine ok_iload dX2_choicesOfSteps_15 rfl ?_
  refine okN_if_lt (tgt := 28) dX2_choicesOfSteps_17 (by decide) (by omega) ?_
  refine ok_iload dX2_choicesOfSteps_20 rfl ?_
  refine ok_sipush (v := nI 385) dX2_choicesOfSteps_22 (by decide) ?_
  refine okN_icmp_lt (tgt := 30) dX2_choicesOfSteps_25 (by decide) (by omega) (by omega) (fun c2 => ?_) (fun c2 => ?_)
  · refine ok_iload dX2_choicesOfSteps_30 rfl ?_
    refine ok_iconst (v := nI 1) dX2_choicesOfSteps_32 (by decide) ?_
    refine okN_icmp_ge (tgt := 52) dX2_choicesOfSteps_33 (by decide) (by omega) (by omega) (fun c3 => ?_) (fun c3 => ?_)
    · refine ok_aload_n dX2_choicesOfSteps_52 rfl rfl ?_
      refine ok_get dX2_choicesOfSteps_53 fl_X2_34 (by assumption) (by rfl) ?_
      refine ok_iload dX2_choicesOfSteps_56 rfl ?_
      refine ok_lconst (v := 1) dX2_choicesOfSteps_58 (by decide) ?_
      refine okN_last dX2_choicesOfSteps_59 (by assumption) (by omega) (by decide) (fun h2 hx2 he2 => ?_)
      have x2m : hx mxA h1 h2 := hx2.mono (by rcases nwr with rfl | rfl <;> decide)
      have i52 : I5p h2 nw lt := by
        obtain ⟨-, b1, b2, b3, b4, b5, b6, b7, b8, b9⟩ := i51
        exact ⟨a, hx2.at (by simp <;> omega) b1, hx2.at (by simp <;> omega) b2, b3.at hx2 (by simp <;> omega), b4.at hx2 (by simp <;> omega), b5.at hx2 (by simp <;> omega), b6.w hx2.w (by simp <;> omega) (by simp <;> omega), b7.w hx2.w (by simp <;> omega) (by simp <;> omega), ⟨_, he2⟩, b9.at hx2 (by simp <;> omega)⟩
      have ls2 := ls1.at hx2 (by simp <;> omega) (by simp <;> omega)
      refine ok_iconst (v := nI 1) dX2_choicesOfSteps_60 (by decide) ?_
      refine ok_istore dX2_choicesOfSteps_61 (st_9_6 rfl) (Nat.le_of_ble_eq_true rfl) ?_
      refine l_X2_cos1 (h := h2) (n := l.sum) (f := nb l) (rb := rb) (len := l.length) (by omega) q3 hra hrb hk (fun h3 nw' lt' A z6 x3 i53 en3 fA => ?_) (kk - 1) 0 h2 nw lt _ (by omega) hx.rf ls2 i52 he2 (fun x => ?_) (hx2.at (by simp <;> omega) er11)
      · have ls3 := ls2.at x3 (by decide) (by decide)
        have x03 : hx mxA h h3 := (x1m.tr' x2m).tr' x3
        refine ok_lconst (v := 0) dX2_choicesOfSteps_85 (by decide) ?_
        refine ok_lstore dX2_choicesOfSteps_86 (st2_9_6 rfl) (Nat.le_of_ble_eq_true rfl) ?_
        refine ok_iconst (v := nI 0) dX2_choicesOfSteps_88 (by decide) ?_
        refine ok_istore dX2_choicesOfSteps_89 (st_9_8 rfl) (Nat.le_of_ble_eq_true rfl) ?_
        refine l_X2_cos2 (h := h3) (n := l.sum) (rb := rb) (len := l.length) (sb := sb) (by omega) om hs.symm hra hsa hsb (fun j hj => by rw [fA j]; exact wkT_hi (by omega) q3 _ j hj) (fun h4 x4 i54 => ?_) 385 0 h3 (by omega) hx.rf ls3 i53 en3 (x03.at (by simp <;> omega) r1.1) (r2.at x03 (by simp <;> omega) (by simp <;> omega))
        have e : acT l.sum A 385 (nb m) = wkT l.sum (nb l) kk (nb m) := by
          rw [acT_cg fA 385]
          have m2 := acT_more (n := l.sum) (m := cap l.sum l.sum) (A := wkT l.sum (nb l) (kk - 1)) (fun j hj => wkT_hi (by omega) q3 _ j hj) (385 - cap l.sum l.sum) (nb m)
          rw [show cap l.sum l.sum + (385 - cap l.sum l.sum) = 385 by omega] at m2
          rw [m2]
          obtain ⟨t, rfl⟩ : ∃ t, kk = t + 1 := ⟨kk - 1, by omega⟩
          rfl
        rw [e]
        exact k h4 (x03.tr' x4) i54.to
      · show up (fun _ => (0 : Int64)) (nb l) 1 x = (if x = nb l then 1 else 0)
        by_cases z : x = nb l
        · rw [if_pos z, z, up_eq]
        · rw [if_neg z, up_ne z]
    · have k0 : kk = 0 := by omega
      subst k0
      refine ok_iload dX2_choicesOfSteps_36 rfl ?_
      refine ok_aload_n dX2_choicesOfSteps_38 rfl rfl ?_
      refine ok_aload_n dX2_choicesOfSteps_39 rfl rfl ?_
      refine call_X1_numberOf dX2_choicesOfSteps_40 lk_X2_74 ⟨Nat.le_of_ble_eq_true rfl, Nat.le_of_ble_eq_true rfl, Nat.le_of_ble_eq_true rfl⟩ (by assumption) (Nat.le_of_ble_eq_true rfl) ?_
      refine c_X1_numberOf ls1 r21 om ?_
      dsimp only [m_push]
      have K : Q (some (.long (if nb m = nb l then 1 else 0))) h1 := k h1 x1m i51.to
      refine okN_icmp_ne (tgt := 50) dX2_choicesOfSteps_43 (by decide) (by omega) (by omega) (fun c4 => ?_) (fun c4 => ?_)
      · rw [if_neg (fun e => c4 e.symm)] at K
        refine ok_lconst (v := 0) dX2_choicesOfSteps_50 (by decide) ?_
        refine ok_lret dX2_choicesOfSteps_51 rfl ⟨Nat.le_of_ble_eq_true rfl, Nat.le_of_ble_eq_true rfl⟩ ?_
        exact K
      · rw [if_pos c4.symm] at K
        refine ok_lconst (v := 1) dX2_choicesOfSteps_46 (by decide) ?_
        refine ok_goto (tgt := 51) dX2_choicesOfSteps_47 (by decide) ?_
        refine ok_lret dX2_choicesOfSteps_51 rfl ⟨Nat.le_of_ble_eq_true rfl, Nat.le_of_ble_eq_true rfl⟩ ?_
        exact K
  · exact absurd c2 (by omega)
theorem p_X4_reach {p : Int32} (I : IX h S) (k : ∀ h', fX h h' → IX h' (sp_reach S p).2 → Q (some (.int (sp_reach S p).1)) h') : Ok g MX4_reach (m_J g MX4_reach Q) 0 [some (.ref 0), some (.int p), none] [] h 0 0 := by
  have e0 := I.1
  have hr := I.2.1
  unfold sp_reach ofp at k
  refine ok_iload_n dX4_reach_0 rfl ?_
  refine call_X4_isPlace dX4_reach_1 lk_X4_51 ⟨Nat.le_of_ble_eq_true rfl, Nat.le_of_ble_eq_true rfl, Nat.le_of_ble_eq_true rfl⟩ (Nat.le_of_ble_eq_true rfl) ?_
  refine c_X4_isPlace (fun j q1 q2 q3 => ?_) (fun q => ?_)
  · rw [q1] at k
    dsimp only at k
    refine okN_if_ne (tgt := 9) dX4_reach_4 (by decide) (by omega) (fun c1 => ?_) (fun c1 => ?_)
    · refine ok_aload_n dX4_reach_9 rfl rfl ?_
      refine ok_iload_n dX4_reach_10 rfl ?_
      refine call_X4_rowAt dX4_reach_11 lk_X4_58 ⟨Nat.le_of_ble_eq_true rfl, Nat.le_of_ble_eq_true rfl, Nat.le_of_ble_eq_true rfl⟩ (by assumption) (Nat.le_of_ble_eq_true rfl) ?_
      refine c_X4_rowAt I (fun j' w1 w2 w3 => ?_) (fun w => ?_)
      · have ej : j' = j := by rw [q1] at w1; exact (Option.some.inj w1).symm
        subst ej
        rw [if_pos w3] at k
        obtain ⟨ol, rr⟩ := I.2.2.2.2.2.2.2.2.2.2.row q2 w3
        have ls := I.2.2.2.2.2.1
        obtain ⟨nw, lt, i5⟩ := I.2.2.2.2.2.2.1.pp
        obtain ⟨a, ea, eb, c8, c9, c10, s1, s2, j1, j2⟩ := id i5
        have hlt : lt = 15 ∨ lt = 16 := by omega
        refine ok_astore_n dX4_reach_14 (st_3_2 rfl) (Nat.le_of_ble_eq_true rfl) rfl ?_
        refine ok_aload_n dX4_reach_15 rfl rfl ?_
        refine ok_ifnonnull (tgt := 27) dX4_reach_16 (by decide) rfl (fun c2 => ?_) (fun c2 => ?_)
        · refine ok_aload_n dX4_reach_27 rfl rfl ?_
          refine ok_get dX4_reach_28 fl_X4_33 (by assumption) (by rfl) ?_
          refine ok_aload_n dX4_reach_31 rfl rfl ?_
          refine ok_get dX4_reach_32 fl_X4_26 (by assumption) (by rfl) ?_
          refine ok_aload_n dX4_reach_35 rfl rfl ?_
          refine call_X2_countReached dX4_reach_36 lk_X4_163 ⟨Nat.le_of_ble_eq_true rfl, Nat.le_of_ble_eq_true rfl, Nat.le_of_ble_eq_true rfl⟩ (by assumption) (Nat.le_of_ble_eq_true rfl) ?_
          refine c_X2_countReached ol hlt ls ea eb c8 c9 s2 j2 rr (by omega) (by omega) (fun h1 x1 y1 y2 y3 y4 => ?_)
          refine ok_iret dX4_reach_39 rfl rfl ⟨Nat.le_of_ble_eq_true rfl, Nat.le_of_ble_eq_true rfl⟩ ?_
          exact k h1 (x1.w.f (by rcases hlt with rfl | rfl <;> decide)) (I.set5 (x1.mono (by rcases hlt with rfl | rfl <;> decide)) (I5p.to ⟨a, x1.at (by simp <;> omega) ea, x1.at (by simp <;> omega) eb, y1, y2, c10.at x1 (by simp <;> omega), s1.w x1.w (by simp <;> omega) (by simp <;> omega), y3, j1.at x1 (by simp <;> omega), y4⟩))
        · cases c2
      · rw [if_neg (by rw [w j q1]; decide)] at k
        refine ok_astore_n dX4_reach_14 (st_3_2 rfl) (Nat.le_of_ble_eq_true rfl) rfl ?_
        refine ok_aload_n dX4_reach_15 rfl rfl ?_
        refine ok_ifnonnull (tgt := 27) dX4_reach_16 (by decide) rfl (fun c2 => ?_) (fun c2 => ?_)
        · exact absurd rfl c2
        · refine ok_aload_n dX4_reach_19 rfl rfl ?_
          refine ok_iconst (v := nI 1) dX4_reach_20 (by decide) ?_
          refine call_X4_found dX4_reach_21 lk_X4_62 ⟨Nat.le_of_ble_eq_true rfl, Nat.le_of_ble_eq_true rfl, Nat.le_of_ble_eq_true rfl⟩ (by assumption) (Nat.le_of_ble_eq_true rfl) ?_
          refine c_X4_found I (by decide) (fun h' x' I' => ?_)
          refine ok_goto (tgt := 39) dX4_reach_24 (by decide) ?_
          refine ok_iret dX4_reach_39 rfl rfl ⟨Nat.le_of_ble_eq_true rfl, Nat.le_of_ble_eq_true rfl⟩ ?_
          exact k h' (x'.w.f (by decide)) I'
    · exact absurd c1 (by decide)
  · rw [q] at k
    refine okN_if_ne (tgt := 9) dX4_reach_4 (by decide) (by omega) (fun c1 => ?_) (fun c1 => ?_)
    · exact absurd c1 (by decide)
    · refine ok_iconst (v := -1) dX4_reach_7 (by decide) ?_
      refine ok_iret dX4_reach_8 rfl rfl ⟨Nat.le_of_ble_eq_true rfl, Nat.le_of_ble_eq_true rfl⟩ ?_
      exact k h fX.rf I
theorem p_X4_ways {p q : Int32} (I : IX h S) (k : ∀ h', fX h h' → IX h' (sp_ways S p q).2 → Q (some (.int (sp_ways S p q).1)) h') : Ok g MX4_ways (m_J g MX4_ways Q) 0 [some (.ref 0), some (.int p), some (.int q), none, none] [] h 0 0 := by
  have e0 := I.1
  have hr := I.2.1
  unfold sp_ways of2 at k
  refine ok_iload_n dX4_ways_0 rfl ?_
  refine call_X4_isPlace dX4_ways_1 lk_X4_51 ⟨Nat.le_of_ble_eq_true rfl, Nat.le_of_ble_eq_true rfl, Nat.le_of_ble_eq_true rfl⟩ (Nat.le_of_ble_eq_true rfl) ?_
  refine c_X4_isPlace (fun i q1 q2 q3 => ?_) (fun z => ?_)
  · rw [q1] at k
    refine okN_if_eq (tgt := 14) dX4_ways_4 (by decide) (by omega) (fun c1 => ?_) (fun c1 => ?_)
    · exact absurd c1 (by decide)
    · refine ok_iload_n dX4_ways_7 rfl ?_
      refine call_X4_isPlace dX4_ways_8 lk_X4_51 ⟨Nat.le_of_ble_eq_true rfl, Nat.le_of_ble_eq_true rfl, Nat.le_of_ble_eq_true rfl⟩ (Nat.le_of_ble_eq_true rfl) ?_
      refine c_X4_isPlace (fun j p1 p2 p3 => ?_) (fun z => ?_)
      · rw [p1] at k
        dsimp only at k
        refine okN_if_ne (tgt := 16) dX4_ways_11 (by decide) (by omega) (fun c2 => ?_) (fun c2 => ?_)
        · refine ok_aload_n dX4_ways_16 rfl rfl ?_
          refine ok_iload_n dX4_ways_17 rfl ?_
          have bad : ¬ (S.1 i = true ∧ S.1 j = true) → ∀ (v3 v4 : Value), m_isA v3 = true → m_isA v4 = true → (v3 = .null ∨ v4 = .null) → Ok g MX4_ways (m_J g MX4_ways Q) 29 [some (.ref 0), some (.int p), some (.int q), some v3, some v4] [] h 0 0 := by
            intro hn v3 v4 a3 a4 hv
            rw [if_neg hn] at k
            have fin : Ok g MX4_ways (m_J g MX4_ways Q) 38 [some (.ref 0), some (.int p), some (.int q), some v3, some v4] [] h 0 0 := by
              refine ok_aload_n dX4_ways_38 rfl rfl ?_
              refine ok_iconst (v := nI 1) dX4_ways_39 (by decide) ?_
              refine call_X4_found dX4_ways_40 lk_X4_62 ⟨Nat.le_of_ble_eq_true rfl, Nat.le_of_ble_eq_true rfl, Nat.le_of_ble_eq_true rfl⟩ (by assumption) (Nat.le_of_ble_eq_true rfl) ?_
              refine c_X4_found I (by decide) (fun h' x' I' => ?_)
              refine ok_iret dX4_ways_43 rfl rfl ⟨Nat.le_of_ble_eq_true rfl, Nat.le_of_ble_eq_true rfl⟩ ?_
              exact k h' (x'.w.f (by decide)) I'
            refine ok_aload_n dX4_ways_29 rfl a3 ?_
            refine ok_ifnull (tgt := 38) dX4_ways_30 (by decide) a3 (fun _ => fin) (fun c3 => ?_)
            refine ok_aload dX4_ways_33 rfl a4 ?_
            refine ok_ifnonnull (tgt := 44) dX4_ways_35 (by decide) a4 (fun c4 => ?_) (fun _ => fin)
            rcases hv with e | e
            · exact absurd e c3
            · exact absurd e c4
          refine call_X4_rowAt dX4_ways_18 lk_X4_58 ⟨Nat.le_of_ble_eq_true rfl, Nat.le_of_ble_eq_true rfl, Nat.le_of_ble_eq_true rfl⟩ (by assumption) (Nat.le_of_ble_eq_true rfl) ?_
          refine c_X4_rowAt I (fun i' w1 w2 w3 => ?_) (fun w => ?_)
          · have ei : i' = i := by rw [q1] at w1; exact (Option.some.inj w1).symm
            subst ei
            refine ok_astore_n dX4_ways_21 (st_5_3 rfl) (Nat.le_of_ble_eq_true rfl) rfl ?_
            refine ok_aload_n dX4_ways_22 rfl rfl ?_
            refine ok_iload_n dX4_ways_23 rfl ?_
            refine call_X4_rowAt dX4_ways_24 lk_X4_58 ⟨Nat.le_of_ble_eq_true rfl, Nat.le_of_ble_eq_true rfl, Nat.le_of_ble_eq_true rfl⟩ (by assumption) (Nat.le_of_ble_eq_true rfl) ?_
            refine c_X4_rowAt I (fun j' u1 u2 u3 => ?_) (fun u => ?_)
            · have ej : j' = j := by rw [p1] at u1; exact (Option.some.inj u1).symm
              subst ej
              rw [if_pos ⟨w3, u3⟩] at k
              obtain ⟨ol, rr⟩ := I.2.2.2.2.2.2.2.2.2.2.row q2 w3
              obtain ⟨ol', rr'⟩ := I.2.2.2.2.2.2.2.2.2.2.row p2 u3
              obtain ⟨nw, lt, i5⟩ := I.2.2.2.2.2.2.1.pp
              obtain ⟨a, ea, eb, c8, c9, c10, s1, s2, j1, j2⟩ := id i5
              refine ok_astore dX4_ways_27 (st_5_4 rfl) (Nat.le_of_ble_eq_true rfl) rfl ?_
              refine ok_aload_n dX4_ways_29 rfl rfl ?_
              refine ok_ifnull (tgt := 38) dX4_ways_30 (by decide) rfl (fun c3 => ?_) (fun c3 => ?_)
              · cases c3
              refine ok_aload dX4_ways_33 rfl rfl ?_
              refine ok_ifnonnull (tgt := 44) dX4_ways_35 (by decide) rfl (fun c4 => ?_) (fun c4 => ?_)
              · refine ok_aload_n dX4_ways_44 rfl rfl ?_
                refine ok_get dX4_ways_45 fl_X4_33 (by assumption) (by rfl) ?_
                refine ok_aload_n dX4_ways_48 rfl rfl ?_
                refine ok_aload dX4_ways_49 rfl rfl ?_
                refine call_X2_choicesBetween dX4_ways_51 lk_X4_159 ⟨Nat.le_of_ble_eq_true rfl, Nat.le_of_ble_eq_true rfl, Nat.le_of_ble_eq_true rfl⟩ (by assumption) (Nat.le_of_ble_eq_true rfl) ?_
                refine c_X2_choicesBetween ol ol' ea eb c8 c10 rr rr' (by omega) (by omega) (fun h1 x1 y1 y2 => ?_)
                refine ok_iret dX4_ways_54 rfl rfl ⟨Nat.le_of_ble_eq_true rfl, Nat.le_of_ble_eq_true rfl⟩ ?_
                exact k h1 (x1.w.f (by decide)) (I.set5 (x1.mono (by decide)) (I5p.to ⟨a, x1.at (by decide) ea, x1.at (by decide) eb, y1, c9.at x1 (by decide), y2, s1.w x1.w (by decide) (by decide), s2.w x1.w (by decide) (by decide), j1.at x1 (by simp <;> omega), j2.at x1 (by simp <;> omega)⟩))
              · cases c4
            · refine ok_astore dX4_ways_27 (st_5_4 rfl) (Nat.le_of_ble_eq_true rfl) rfl ?_
              exact bad (fun z => by have := u j p1; rw [z.2] at this; cases this) _ _ rfl rfl (Or.inr rfl)
          · refine ok_astore_n dX4_ways_21 (st_5_3 rfl) (Nat.le_of_ble_eq_true rfl) rfl ?_
            refine ok_aload_n dX4_ways_22 rfl rfl ?_
            refine ok_iload_n dX4_ways_23 rfl ?_
            refine call_X4_rowAt dX4_ways_24 lk_X4_58 ⟨Nat.le_of_ble_eq_true rfl, Nat.le_of_ble_eq_true rfl, Nat.le_of_ble_eq_true rfl⟩ (by assumption) (Nat.le_of_ble_eq_true rfl) ?_
            refine c_X4_rowAt I (fun j' u1 u2 u3 => ?_) (fun u => ?_)
            · refine ok_astore dX4_ways_27 (st_5_4 rfl) (Nat.le_of_ble_eq_true rfl) rfl ?_
              exact bad (fun z => by have := w i q1; rw [z.1] at this; cases this) _ _ rfl rfl (Or.inl rfl)
            · refine ok_astore dX4_ways_27 (st_5_4 rfl) (Nat.le_of_ble_eq_true rfl) rfl ?_
              exact bad (fun z => by have := w i q1; rw [z.1] at this; cases this) _ _ rfl rfl (Or.inl rfl)
        · exact absurd c2 (by decide)
      · rw [z] at k
        dsimp only at k
        refine okN_if_ne (tgt := 16) dX4_ways_11 (by decide) (by omega) (fun c2 => ?_) (fun c2 => ?_)
        · exact absurd c2 (by decide)
        · refine ok_iconst (v := -1) dX4_ways_14 (by decide) ?_
          refine ok_iret dX4_ways_15 rfl rfl ⟨Nat.le_of_ble_eq_true rfl, Nat.le_of_ble_eq_true rfl⟩ ?_
          exact k h fX.rf I
  · rw [z] at k
    dsimp only at k
    refine okN_if_eq (tgt := 14) dX4_ways_4 (by decide) (by omega) (fun c1 => ?_) (fun c1 => ?_)
    · refine ok_iconst (v := -1) dX4_ways_14 (by decide) ?_
      refine ok_iret dX4_ways_15 rfl rfl ⟨Nat.le_of_ble_eq_true rfl, Nat.le_of_ble_eq_true rfl⟩ ?_
      exact k h fX.rf I
    · exact absurd c1 (by decide)
theorem IX.setW {h h' : mH} {S : ST} {w : Int64} (I : IX h S) (x : hx [0] h h') (e : hc h' 0 = some (gho S.2.2.1 S.2.2.2.1 w)) : IX h' (s_wk S w) := by
  obtain ⟨e0, hr, i1, i2, i3, i4, i5, i6, i7, i7', i8⟩ := I
  have w := x.w
  exact ⟨e, hr, i1.w w (by decide), i2.w w (by decide), i3.w w (by decide), i4.w w (by decide) (by decide), i5.w w (fun q l1 l2 => by simp <;> omega), i6.w w (by decide) (by decide), i7.w w (by decide) (by decide), i7'.w w (by decide) (by decide), i8.w w (fun q l1 l2 => by simp <;> omega)⟩
theorem p_X4_walks {p q kw : Int32} (I : IX h S) (k : ∀ h', fX h h' → IX h' (sp_walks S p q kw).2 → Q (some (.int (sp_walks S p q kw).1)) h') : Ok g MX4_walks (m_J g MX4_walks Q) 0 [some (.ref 0), some (.int p), some (.int q), some (.int kw), none, none] [] h 0 0 := by
  have e0 := I.1
  have hr := I.2.1
  have out : (sp_walks S p q kw) = (-1, S) → Ok g MX4_walks (m_J g MX4_walks Q) 23 [some (.ref 0), some (.int p), some (.int q), some (.int kw), none, none] [] h 0 0 := by
    intro e
    rw [e] at k
    refine ok_iconst (v := -1) dX4_walks_23 (by decide) ?_
    refine ok_iret dX4_walks_24 rfl rfl ⟨Nat.le_of_ble_eq_true rfl, Nat.le_of_ble_eq_true rfl⟩ ?_
    exact k h fX.rf I
  refine ok_iload_n dX4_walks_0 rfl ?_
  refine call_X4_isPlace dX4_walks_1 lk_X4_51 ⟨Nat.le_of_ble_eq_true rfl, Nat.le_of_ble_eq_true rfl, Nat.le_of_ble_eq_true rfl⟩ (Nat.le_of_ble_eq_true rfl) ?_
  refine c_X4_isPlace (fun i q1 q2 q3 => ?_) (fun z => ?_)
  · refine okN_if_eq (tgt := 23) dX4_walks_4 (by decide) (by omega) (fun c1 => ?_) (fun c1 => ?_)
    · exact absurd c1 (by decide)
    · refine ok_iload_n dX4_walks_7 rfl ?_
      refine call_X4_isPlace dX4_walks_8 lk_X4_51 ⟨Nat.le_of_ble_eq_true rfl, Nat.le_of_ble_eq_true rfl, Nat.le_of_ble_eq_true rfl⟩ (Nat.le_of_ble_eq_true rfl) ?_
      refine c_X4_isPlace (fun j p1 p2 p3 => ?_) (fun z => ?_)
      · refine okN_if_eq (tgt := 23) dX4_walks_11 (by decide) (by omega) (fun c2 => ?_) (fun c2 => ?_)
        · exact absurd c2 (by decide)
        · rcases pl_cases 4 kw (by decide) with e | ⟨m, e, hm, rfl⟩
          · have pn := pl_not e
            have ek : sp_walks S p q kw = (-1, S) := by unfold sp_walks; rw [e]
            refine ok_iload_n dX4_walks_14 rfl ?_
            refine ok_if_lt (tgt := 23) dX4_walks_15 (by decide) (fun c3 => ?_) (fun c3 => ?_)
            · exact out ek
            · refine ok_iload_n dX4_walks_18 rfl ?_
              refine ok_iconst (v := nI 3) dX4_walks_19 (by decide) ?_
              refine ok_icmp_le (tgt := 25) dX4_walks_20 (by decide) (fun c4 => ?_) (fun c4 => ?_)
              · rw [tI_0] at c3
                rw [tI_le (by decide)] at c4
                omega
              · exact out ek
          · unfold sp_walks of2 at k
            rw [e, q1, p1] at k
            dsimp only at k
            refine ok_iload_n dX4_walks_14 rfl ?_
            refine okN_if_lt (tgt := 23) dX4_walks_15 (by decide) (by omega) ?_
            refine ok_iload_n dX4_walks_18 rfl ?_
            refine ok_iconst (v := nI 3) dX4_walks_19 (by decide) ?_
            refine okN_icmp_le (tgt := 25) dX4_walks_20 (by decide) (by omega) (by omega) (fun c4 => ?_) (fun c4 => ?_)
            · have bad : ¬ (S.1 i = true ∧ S.1 j = true) → ∀ (v3 v4 : Value), m_isA v3 = true → m_isA v4 = true → (v3 = .null ∨ v4 = .null) → Ok g MX4_walks (m_J g MX4_walks Q) 39 [some (.ref 0), some (.int p), some (.int q), some (.int (nI m)), some v3, some v4] [] h 0 0 := by
                intro hn v3 v4 a3 a4 hv
                rw [if_neg hn] at k
                have fin : Ok g MX4_walks (m_J g MX4_walks Q) 49 [some (.ref 0), some (.int p), some (.int q), some (.int (nI m)), some v3, some v4] [] h 0 0 := by
                  refine ok_aload_n dX4_walks_49 rfl rfl ?_
                  refine ok_iconst (v := nI 1) dX4_walks_50 (by decide) ?_
                  refine call_X4_found dX4_walks_51 lk_X4_62 ⟨Nat.le_of_ble_eq_true rfl, Nat.le_of_ble_eq_true rfl, Nat.le_of_ble_eq_true rfl⟩ (by assumption) (Nat.le_of_ble_eq_true rfl) ?_
                  refine c_X4_found I (by decide) (fun h' x' I' => ?_)
                  refine ok_iret dX4_walks_54 rfl rfl ⟨Nat.le_of_ble_eq_true rfl, Nat.le_of_ble_eq_true rfl⟩ ?_
                  exact k h' (x'.w.f (by decide)) I'
                refine ok_aload dX4_walks_39 rfl a3 ?_
                refine ok_ifnull (tgt := 49) dX4_walks_41 (by decide) a3 (fun _ => fin) (fun c3 => ?_)
                refine ok_aload dX4_walks_44 rfl a4 ?_
                refine ok_ifnonnull (tgt := 55) dX4_walks_46 (by decide) a4 (fun c4 => ?_) (fun _ => fin)
                rcases hv with e | e
                · exact absurd e c3
                · exact absurd e c4
              refine ok_aload_n dX4_walks_25 rfl rfl ?_
              refine ok_iload_n dX4_walks_26 rfl ?_
              refine call_X4_rowAt dX4_walks_27 lk_X4_58 ⟨Nat.le_of_ble_eq_true rfl, Nat.le_of_ble_eq_true rfl, Nat.le_of_ble_eq_true rfl⟩ (by assumption) (Nat.le_of_ble_eq_true rfl) ?_
              refine c_X4_rowAt I (fun i' w1 w2 w3 => ?_) (fun w => ?_)
              · have ei : i' = i := by rw [q1] at w1; exact (Option.some.inj w1).symm
                subst ei
                refine ok_astore dX4_walks_30 (st_6_4 rfl) (Nat.le_of_ble_eq_true rfl) rfl ?_
                refine ok_aload_n dX4_walks_32 rfl rfl ?_
                refine ok_iload_n dX4_walks_33 rfl ?_
                refine call_X4_rowAt dX4_walks_34 lk_X4_58 ⟨Nat.le_of_ble_eq_true rfl, Nat.le_of_ble_eq_true rfl, Nat.le_of_ble_eq_true rfl⟩ (by assumption) (Nat.le_of_ble_eq_true rfl) ?_
                refine c_X4_rowAt I (fun j' u1 u2 u3 => ?_) (fun u => ?_)
                · have ej : j' = j := by rw [p1] at u1; exact (Option.some.inj u1).symm
                  subst ej
                  rw [if_pos ⟨w3, u3⟩] at k
                  obtain ⟨ol, rr⟩ := I.2.2.2.2.2.2.2.2.2.2.row q2 w3
                  obtain ⟨ol', rr'⟩ := I.2.2.2.2.2.2.2.2.2.2.row p2 u3
                  have er := rr.1
                  have er' := rr'.1
                  have hsum := ol.2.2
                  have hsum' := ol'.2.2
                  have i5 := I.2.2.2.2.2.2.1
                  obtain ⟨nw, lt, i5p⟩ := i5.pp
                  have ea := i5p.2.1
                  have ls := I.2.2.2.2.2.1
                  have fin : ∀ (wv : Int64) (h1 : mH), hx mxA h h1 → IX h1 S → wv = (if (S.2.1 i').sum = (S.2.1 j').sum then wkT (S.2.1 i').sum (nb (S.2.1 i')) m (nb (S.2.1 j')) else 0) → Ok g MX4_walks (m_J g MX4_walks Q) 89 [some (.ref 0), some (.int p), some (.int q), some (.int (nI m)), some (.ref (22 + 2 * i')), some (.ref (22 + 2 * j'))] [.long wv, .ref 0] h1 0 0 := by
                    intro wv h1 x1 I1 hw
                    subst hw
                    have e01 := I1.1
                    refine okR_put dX4_walks_89 fl_X4_171 (by assumption) (Nat.le_of_ble_eq_true rfl) (fun _ => ⟨rfl, rfl⟩) set_11_10 (fun h2 hx2 he2 => ?_)
                    refine ok_iconst (v := nI 1) dX4_walks_92 (by decide) ?_
                    refine ok_iret dX4_walks_93 rfl rfl ⟨Nat.le_of_ble_eq_true rfl, Nat.le_of_ble_eq_true rfl⟩ ?_
                    exact k h2 ((x1.w.f (by decide)).tr (hx2.w.f (by decide))) (I1.setW hx2 he2)
                  refine ok_astore dX4_walks_37 (st_6_5 rfl) (Nat.le_of_ble_eq_true rfl) rfl ?_
                  refine ok_aload dX4_walks_39 rfl rfl ?_
                  refine ok_ifnull (tgt := 49) dX4_walks_41 (by decide) rfl (fun c5 => ?_) (fun c5 => ?_)
                  · cases c5
                  refine ok_aload dX4_walks_44 rfl rfl ?_
                  refine ok_ifnonnull (tgt := 55) dX4_walks_46 (by decide) rfl (fun c6 => ?_) (fun c6 => ?_)
                  · refine ok_aload_n dX4_walks_55 rfl rfl ?_
                    refine ok_aload dX4_walks_56 rfl rfl ?_
                    refine ok_get dX4_walks_58 fl_X4_90 (by assumption) (by rfl) ?_
                    refine ok_aload dX4_walks_61 rfl rfl ?_
                    refine ok_get dX4_walks_63 fl_X4_90 (by assumption) (by rfl) ?_
                    refine okN_icmp_ne (tgt := 88) dX4_walks_66 (by decide) (by omega) (by omega) (fun c7 => ?_) (fun c7 => ?_)
                    · refine ok_lconst (v := 0) dX4_walks_88 (by decide) ?_
                      exact fin 0 h hx.rf I (by rw [if_neg c7])
                    · refine ok_aload_n dX4_walks_69 rfl rfl ?_
                      refine ok_get dX4_walks_70 fl_X4_33 (by assumption) (by rfl) ?_
                      refine ok_aload_n dX4_walks_73 rfl rfl ?_
                      refine ok_get dX4_walks_74 fl_X4_26 (by assumption) (by rfl) ?_
                      refine ok_aload dX4_walks_77 rfl rfl ?_
                      refine ok_aload dX4_walks_79 rfl rfl ?_
                      refine ok_iload_n dX4_walks_81 rfl ?_
                      refine call_X2_choicesOfSteps dX4_walks_82 lk_X4_167 ⟨Nat.le_of_ble_eq_true rfl, Nat.le_of_ble_eq_true rfl, Nat.le_of_ble_eq_true rfl⟩ (by assumption) (Nat.le_of_ble_eq_true rfl) ?_
                      refine c_X2_choicesOfSteps ol ol' c7 (by omega) ls i5 rr rr' (by omega) (by omega) (by omega) (by omega) (fun h1 x1 y1 => ?_)
                      refine ok_goto (tgt := 89) dX4_walks_85 (by decide) ?_
                      exact fin _ h1 x1 (I.set5 x1 y1) (by rw [if_pos c7])
                  · cases c6
                · refine ok_astore dX4_walks_37 (st_6_5 rfl) (Nat.le_of_ble_eq_true rfl) rfl ?_
                  exact bad (fun z => by have := u j p1; rw [z.2] at this; cases this) _ _ rfl rfl (Or.inr rfl)
              · refine ok_astore dX4_walks_30 (st_6_4 rfl) (Nat.le_of_ble_eq_true rfl) rfl ?_
                refine ok_aload_n dX4_walks_32 rfl rfl ?_
                refine ok_iload_n dX4_walks_33 rfl ?_
                refine call_X4_rowAt dX4_walks_34 lk_X4_58 ⟨Nat.le_of_ble_eq_true rfl, Nat.le_of_ble_eq_true rfl, Nat.le_of_ble_eq_true rfl⟩ (by assumption) (Nat.le_of_ble_eq_true rfl) ?_
                refine c_X4_rowAt I (fun j' u1 u2 u3 => ?_) (fun u => ?_)
                · refine ok_astore dX4_walks_37 (st_6_5 rfl) (Nat.le_of_ble_eq_true rfl) rfl ?_
                  exact bad (fun z => by have := w i q1; rw [z.1] at this; cases this) _ _ rfl rfl (Or.inl rfl)
                · refine ok_astore dX4_walks_37 (st_6_5 rfl) (Nat.le_of_ble_eq_true rfl) rfl ?_
                  exact bad (fun z => by have := w i q1; rw [z.1] at this; cases this) _ _ rfl rfl (Or.inl rfl)
            · exact absurd c4 (by omega)
      · have ek : sp_walks S p q kw = (-1, S) := by
          unfold sp_walks of2
          rw [q1, z]
          cases pl 4 kw <;> rfl
        refine okN_if_eq (tgt := 23) dX4_walks_11 (by decide) (by omega) (fun c2 => ?_) (fun c2 => ?_)
        · exact out ek
        · exact absurd c2 (by decide)
  · have ek : sp_walks S p q kw = (-1, S) := by
      unfold sp_walks of2
      rw [z]
      cases pl 4 kw <;> rfl
    refine okN_if_eq (tgt := 23) dX4_walks_4 (by decide) (by omega) (fun c1 => ?_) (fun c1 => ?_)
    · exact out ek
    · exact absurd c1 (by decide)
end MIXE
