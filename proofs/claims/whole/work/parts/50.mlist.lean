/-! ===== the second program's list ===== -/
def flN (c : Nat) : Nat → Nat → List Nat
  | 0, _ => []
  | f + 1, m => if m = 0 then [] else if m < c then [m] else c :: flN c f (m - c)
def latA : List Nat → Nat ⊕ List Nat
  | [] => .inl 0
  | x :: t => match latA t with
    | .inr u => .inr (x :: u)
    | .inl m => if x = 1 then .inl (m + 1) else .inr ((x - 1) :: flN (x - 1) 19 (m + 1))
def isR (l : List Nat) : Nat ⊕ List Nat → Bool
  | .inl _ => false
  | .inr u => u == l
def isL : Nat ⊕ List Nat → Bool
  | .inl _ => true
  | .inr _ => false
def chkN (n : Nat) : Bool := (List.range (cap n n)).all (fun k => if k + 1 < cap n n then isR (wr n (k + 1)) (latA (wr n k)) else isL (latA (wr n k)))
theorem chkN_all : ∀ n, n < 19 → chkN n = true := by decide +kernel
theorem wr_0 : ∀ n, n < 19 → wr n 0 = if n = 0 then [] else [n] := by decide +kernel
theorem lat_wr {n k : Nat} (hn : n < 19) (hk : k < cap n n) : (k + 1 < cap n n → latA (wr n k) = .inr (wr n (k + 1))) ∧ (¬ k + 1 < cap n n → ∃ m, latA (wr n k) = .inl m) := by
  have h := chkN_all n hn
  unfold chkN at h
  have := List.all_eq_true.mp h k (List.mem_range.mpr hk)
  refine ⟨fun c => ?_, fun c => ?_⟩
  · rw [if_pos c] at this
    cases e : latA (wr n k) with
    | inl m => rw [e] at this; cases this
    | inr u => rw [e] at this; rw [show u = wr n (k + 1) from eq_of_beq this]
  · rw [if_neg c] at this
    cases e : latA (wr n k) with
    | inl m => exact ⟨m, rfl⟩
    | inr u => rw [e] at this; cases this
theorem lat_0 : ∀ (l : List Nat), (∀ j, j < l.length → l.getD j 0 = 1) → latA l = .inl l.length
  | [], _ => rfl
  | x :: t, h => by
    have h0 := h 0 (by simp)
    rw [List.getD_cons_zero] at h0
    have ih := lat_0 t (fun j hj => by have := h (j + 1) (by simp; omega); rwa [List.getD_cons_succ] at this)
    unfold latA
    rw [ih]
    dsimp only
    rw [if_pos h0]
    rfl
theorem lat_1 : ∀ (l : List Nat) (j : Nat), j < l.length → l.getD j 0 ≠ 1 → (∀ i, j < i → i < l.length → l.getD i 0 = 1) → latA l = .inr (l.take j ++ (l.getD j 0 - 1) :: flN (l.getD j 0 - 1) 19 (l.length - j))
  | [], j, h, _, _ => by simp at h
  | x :: t, 0, h, h1, h2 => by
    have ih := lat_0 t (fun j hj => by have := h2 (j + 1) (by omega) (by simp; omega); rwa [List.getD_cons_succ] at this)
    unfold latA
    rw [ih]
    dsimp only
    rw [List.getD_cons_zero] at h1 ⊢
    rw [if_neg h1]
    rfl
  | x :: t, j + 1, h, h1, h2 => by
    rw [List.getD_cons_succ] at h1
    have ih := lat_1 t j (by simpa using h) h1 (fun i h3 h4 => by have := h2 (i + 1) (by omega) (by simp; omega); rwa [List.getD_cons_succ] at this)
    unfold latA
    rw [ih]
    dsimp only
    rw [List.getD_cons_succ, List.take_succ_cons, List.length_cons, Nat.add_sub_add_right]
    rfl
theorem flN_0 (c f : Nat) : flN c f 0 = [] := by cases f <;> rfl
def pr : Nat → Int32
  | 0 => -1
  | j + 1 => nI j
theorem pr_dec (j : Nat) : nI j + Int32.ofInt (-1) = pr j := by
  have e : Int32.ofInt (-1) = -1 := by decide
  cases j with
  | zero => decide
  | succ j => rw [e]; exact pk_m1 j
theorem pr_sub (n : Nat) : nI n - nI 1 = pr n := by
  cases n with
  | zero => decide
  | succ j => exact pk_sub (by omega)
theorem Rm_ap {h : mH} {u : List Nat} {F : Nat → Nat} {v : Nat} (a : arr F u) (e : hc h 51 = some (aI 20 (up F u.length v))) : Rm h (u ++ [v]) := by
  refine ⟨_, e, fun i hi => ?_⟩
  rw [List.length_append] at hi
  simp only [List.length_cons, List.length_nil] at hi
  by_cases c : i = u.length
  · rw [c, up_eq, ap_get2]
  · rw [up_ne c, ap_get1 (by omega), a i (by omega)]
def agL : List Nat → List Nat → Int32
  | x :: t, y :: u => if x = y then agL t u else nI y - nI x
  | _, _ => 0
theorem ag_nil (m : List Nat) : agL [] m = 0 := by cases m <;> rfl
theorem ag_nil' (m : List Nat) : agL m [] = 0 := by cases m <;> rfl
theorem ag_cmp : ∀ (l m : List Nat) (left cp : Nat), gok l left cp → gok m left cp → (agL l m = 0 ∧ l = m) ∨ (nbG m left cp < nbG l left cp ∧ 0 < agL l m) ∨ (nbG l left cp < nbG m left cp ∧ agL l m < 0)
  | [], [], _, _, _, _ => Or.inl ⟨rfl, rfl⟩
  | [], c :: t, left, cp, h, h' => by
    have e := h.2.2.1
    obtain ⟨g1, g2, g3, g4, g5, g6⟩ := h'.tl
    simp at e
    omega
  | c :: t, [], left, cp, h', h => by
    have e := h.2.2.1
    obtain ⟨g1, g2, g3, g4, g5, g6⟩ := h'.tl
    simp at e
    omega
  | c :: t, c' :: t', left, cp, h, h' => by
    obtain ⟨g1, g2, g3, g4, g5, g6⟩ := h.tl
    obtain ⟨g1', g2', g3', g4', g5', g6'⟩ := h'.tl
    have l1 := nbG_lt t (left - c) c g1
    have l1' := nbG_lt t' (left - c') c' g1'
    have s1 := cap_step g5 g2 g3
    have s1' := cap_step g5 g2' g3'
    have m1 := cap_mono left g5 cp g6 c (by omega)
    have m1' := cap_mono left g5 cp g6 c' (by omega)
    have u1 : nbG (c :: t) left cp = (cap left cp - cap left c) + nbG t (left - c) c := rfl
    have u2 : nbG (c' :: t') left cp = (cap left cp - cap left c') + nbG t' (left - c') c' := rfl
    have u3 : agL (c :: t) (c' :: t') = if c = c' then agL t t' else nI c' - nI c := rfl
    rcases Nat.lt_trichotomy c c' with z | z | z
    · right; left
      have := cap_mono left g5 (c' - 1) (by omega) c (by omega)
      refine ⟨by omega, ?_⟩
      rw [u3, if_neg (by omega), pk_sub (by omega), nI_p0 (by omega)]
      omega
    · subst z
      rcases ag_cmp t t' (left - c) c g1 g1' with ⟨e1, e2⟩ | ⟨e1, e2⟩ | ⟨e1, e2⟩
      · left
        rw [u3, if_pos rfl, e2]
        exact ⟨by rw [← e2]; exact e2 ▸ e1, rfl⟩
      · right; left
        rw [u3, if_pos rfl]
        exact ⟨by omega, e2⟩
      · right; right
        rw [u3, if_pos rfl]
        exact ⟨by omega, e2⟩
    · right; right
      have := cap_mono left g5 (c - 1) (by omega) c' (by omega)
      refine ⟨by omega, ?_⟩
      rw [u3, if_neg (by omega)]
      exact pk_sneg (by omega) z
def LSt (h : mH) (n : Nat) : Prop := ∃ F52 F53, hc h 52 = some (aI 6930 F52) ∧ hc h 53 = some (aI 385 F53) ∧ Lst F52 F53 n
theorem LSt.at {h h' : mH} {A : List Nat} {n : Nat} (r : LSt h n) (x : hx A h h') (n1 : 52 ∉ A) (n2 : 53 ∉ A) : LSt h' n := by obtain ⟨F, G, e, f, l⟩ := r; exact ⟨F, G, x.at n1 e, x.at n2 f, l⟩
theorem MI.lst {h : mH} {S : ST} {sz lz n : Nat} {kd : Int32} (I : MI h S sz (nI n) lz kd) (hn : n < 19) : lz = cap n n ∧ LSt h n := by
  obtain ⟨F52, F53, e52, e53, z⟩ := I.2.2.2.2.1
  rcases z with z | ⟨n', h1, h2, h3, h4⟩
  · exfalso
    have : (nI n).toInt = (-9 : Int32).toInt := by rw [z]
    rw [nI_toInt (by omega)] at this
    have : (-9 : Int32).toInt = -9 := by decide
    omega
  · have en : n = n' := (nI_eq (by omega) (by omega)).mp h2
    subst en
    exact ⟨h3, F52, F53, e52, e53, h4⟩
section MLIST
variable {g : mG} {h : mH} {Q : Option Value → mH → Prop} {S : ST} {sz lz : Nat} {li kd : Int32} {fi : Nat} {wk : Int64} {ru : Nat}
theorem l_X5_fill {c j : Nat} {T : List Nat} (hc1 : 1 ≤ c) (hc2 : c ≤ 18) (k : ∀ h', hx [46, 51] h h' → hc h' 46 = some (mdo fi wk ru T.length li lz kd) → Rm h' T → Q (some (.int (nI 1))) h') :
    ∀ (f left : Nat) (u : List Nat) (h1 : mH), left ≤ f → u.length + left ≤ 19 → j < u.length → u.getD j 0 = c → u ++ flN c f left = T → hx [46, 51] h h1 → hc h1 46 = some (mdo fi wk ru u.length li lz kd) → Rm h1 u →
    Ok g MX5_later (m_J g MX5_later Q) 58 [some (.ref 46), some (.int (nI j)), some (.int (nI left))] [] h1 0 0 := by
  have done : ∀ (u : List Nat) (h1 : mH), u ++ [] = T → hx [46, 51] h h1 → hc h1 46 = some (mdo fi wk ru u.length li lz kd) → Rm h1 u → Ok g MX5_later (m_J g MX5_later Q) 58 [some (.ref 46), some (.int (nI j)), some (.int (nI 0))] [] h1 0 0 := by
    intro u h1 hT x1 e0 R
    rw [List.append_nil] at hT
    subst hT
    refine ok_iload_n dX5_later_58 rfl ?_
    refine okN_if_le (tgt := 116) dX5_later_59 (by decide) (by omega) (fun c1 => ?_) (fun c1 => ?_)
    · refine ok_iconst (v := nI 1) dX5_later_116 (by decide) ?_
      refine ok_iret dX5_later_117 rfl rfl ⟨Nat.le_of_ble_eq_true rfl, Nat.le_of_ble_eq_true rfl⟩ ?_
      exact k h1 x1 e0 R
    · exact absurd c1 (by decide)
  intro f
  induction f with
  | zero =>
    intro left u h1 hl h2 h3 h4 hT x1 e0 R
    have el : left = 0 := by omega
    subst el
    exact done u h1 hT x1 e0 R
  | succ f ih =>
    intro left u h1 hl h2 h3 h4 hT x1 e0 R
    by_cases c0 : left = 0
    · subst c0
      rw [flN_0] at hT
      exact done u h1 hT x1 e0 R
    · unfold flN at hT
      rw [if_neg c0] at hT
      obtain ⟨F, e5, a⟩ := R
      have fj : F j = c := by rw [a j h3, h4]
      have rest : ∀ v, v ≤ left → (u ++ [v]) ++ flN c f (left - v) = T → 1 ≤ v → Ok g MX5_later (m_J g MX5_later Q) 90 [some (.ref 46), some (.int (nI j)), some (.int (nI left))] [.int (nI v), .int (nI u.length), .ref 51] h1 0 0 := by
        intro v hv hT' hv1
        first | refine okN_iast dX5_later_90 (by assumption) (by omega) (by decide) (fun h2 hx2 he2 => ?_) | refine okC_iast dX5_later_90 (by assumption) (by omega) (by omega) (by omega) (fun h2 hx2 he2 => ?_) | refine okF_iast dX5_later_90 (by assumption) (by omega) (by omega) (fun h2 hx2 he2 => ?_) | refine okN_kast dX5_later_90 (by assumption) (by omega) (by decide) (fun h2 hx2 he2 => ?_)
        have e02 := hx2.at (by decide) e0
        refine ok_iload_n dX5_later_91 rfl ?_
        refine ok_aload_n dX5_later_92 rfl rfl ?_
        refine ok_get dX5_later_93 fl_X5_22 (by assumption) (by rfl) ?_
        refine ok_aload_n dX5_later_96 rfl rfl ?_
        refine ok_get dX5_later_97 fl_X5_94 (by assumption) (by rfl) ?_
        first | refine okN_iald dX5_later_100 (by assumption) (by omega) (by decide) ?_ | refine okF_iald dX5_later_100 (by assumption) (by omega) (by omega) ?_ | refine okN_kald dX5_later_100 (by assumption) (by omega) (by decide) ?_
        rw [up_eq]
        first | refine okN_isub dX5_later_101 (by omega) ?_ | refine ok_isub dX5_later_101 ?_
        refine ok_istore_n dX5_later_102 (st_3_2 rfl) (Nat.le_of_ble_eq_true rfl) ?_
        refine ok_aload_n dX5_later_103 rfl rfl ?_
        refine ok_dup dX5_later_104 rfl ?_
        refine ok_get dX5_later_105 fl_X5_94 (by assumption) (by rfl) ?_
        refine ok_iconst (v := nI 1) dX5_later_108 (by decide) ?_
        first | refine okN_iadd dX5_later_109 ?_ | refine ok_iadd dX5_later_109 ?_
        refine okR_put dX5_later_110 fl_X5_94 (by assumption) (Nat.le_of_ble_eq_true rfl) (fun _ => ⟨rfl, rfl⟩) set_24_8 (fun h3 hx3 he3 => ?_)
        refine ok_goto (tgt := 58) dX5_later_113 (by decide) ?_
        have ul : (u ++ [v]).length = u.length + 1 := by simp
        refine ih (left - v) (u ++ [v]) h3 (by omega) (by omega) (by omega) (by rw [ap_get1 (by omega)]; exact h4) hT' ((x1.tr hx2 (C := [46, 51]) (by simp) (by simp)).tr hx3 (by simp) (by simp)) (by rw [ul]; exact he3) (Rm_ap a (hx3.at (by decide) he2))
      refine ok_iload_n dX5_later_58 rfl ?_
      refine okN_if_le (tgt := 116) dX5_later_59 (by decide) (by omega) (fun c1 => ?_) (fun c1 => ?_)
      · exact absurd c1 (by omega)
      · refine ok_aload_n dX5_later_62 rfl rfl ?_
        refine ok_get dX5_later_63 fl_X5_22 (by assumption) (by rfl) ?_
        refine ok_aload_n dX5_later_66 rfl rfl ?_
        refine ok_get dX5_later_67 fl_X5_94 (by assumption) (by rfl) ?_
        refine ok_iload_n dX5_later_70 rfl ?_
        refine ok_aload_n dX5_later_71 rfl rfl ?_
        refine ok_get dX5_later_72 fl_X5_22 (by assumption) (by rfl) ?_
        refine ok_iload_n dX5_later_75 rfl ?_
        first | refine okN_iald dX5_later_76 (by assumption) (by omega) (by decide) ?_ | refine okF_iald dX5_later_76 (by assumption) (by omega) (by omega) ?_ | refine okN_kald dX5_later_76 (by assumption) (by omega) (by decide) ?_
        rw [fj]
        refine okN_icmp_ge (tgt := 84) dX5_later_77 (by decide) (by omega) (by omega) (fun c2 => ?_) (fun c2 => ?_)
        · rw [if_neg (by omega)] at hT
          refine ok_aload_n dX5_later_84 rfl rfl ?_
          refine ok_get dX5_later_85 fl_X5_22 (by assumption) (by rfl) ?_
          refine ok_iload_n dX5_later_88 rfl ?_
          first | refine okN_iald dX5_later_89 (by assumption) (by omega) (by decide) ?_ | refine okF_iald dX5_later_89 (by assumption) (by omega) (by omega) ?_ | refine okN_kald dX5_later_89 (by assumption) (by omega) (by decide) ?_
          rw [fj]
          exact rest c (by omega) (by rw [List.append_assoc]; exact hT) hc1
        · rw [if_pos c2] at hT
          refine ok_iload_n dX5_later_80 rfl ?_
          refine ok_goto (tgt := 90) dX5_later_81 (by decide) ?_
          exact rest left (Nat.le_refl _) (by rw [Nat.sub_self, flN_0, List.append_nil]; exact hT) (by omega)
theorem l_X5_later {l : List Nat} (ol : okl l) (e0 : hc h 46 = some (mdo fi wk ru l.length li lz kd)) (R : Rm h l) (k0 : ∀ m, latA l = .inl m → Q (some (.int (nI 0))) h) (k1 : ∀ u h', latA l = .inr u → hx [46, 51] h h' → hc h' 46 = some (mdo fi wk ru u.length li lz kd) → Rm h' u → Q (some (.int (nI 1))) h') :
    ∀ (i : Nat), i ≤ l.length → (∀ j, i ≤ j → j < l.length → l.getD j 0 = 1) → Ok g MX5_later (m_J g MX5_later Q) 9 [some (.ref 46), some (.int (pr i)), some (.int (nI (l.length - i)))] [] h 0 0 := by
  have hlen := ol.len
  have hsum := ol.2.2
  obtain ⟨F, e5, a⟩ := id R
  intro i
  induction i with
  | zero =>
    intro hi hj
    refine ok_iload_n dX5_later_9 rfl ?_
    refine ok_if_lt (tgt := 32) dX5_later_10 (by decide) (fun c1 => ?_) (fun c1 => ?_)
    · refine ok_iload_n dX5_later_32 rfl ?_
      refine ok_if_ge (tgt := 38) dX5_later_33 (by decide) (fun c2 => ?_) (fun c2 => ?_)
      · exact absurd c2 (by decide)
      · refine ok_iconst (v := nI 0) dX5_later_36 (by decide) ?_
        refine ok_iret dX5_later_37 rfl rfl ⟨Nat.le_of_ble_eq_true rfl, Nat.le_of_ble_eq_true rfl⟩ ?_
        exact k0 _ (lat_0 l (fun j hj2 => hj j (Nat.zero_le _) hj2))
    · exact absurd (by decide) c1
  | succ j ih =>
    intro hi hj
    have gb := gd_sum l j
    have gp := ol.2.1 _ (gd_mem l j (by omega))
    rw [show pr (j + 1) = nI j from rfl]
    refine ok_iload_n dX5_later_9 rfl ?_
    refine okN_if_lt (tgt := 32) dX5_later_10 (by decide) (by omega) ?_
    refine ok_aload_n dX5_later_13 rfl rfl ?_
    refine ok_get dX5_later_14 fl_X5_22 (by assumption) (by rfl) ?_
    refine ok_iload_n dX5_later_17 rfl ?_
    first | refine okN_iald dX5_later_18 (by assumption) (by omega) (by decide) ?_ | refine okF_iald dX5_later_18 (by assumption) (by omega) (by omega) ?_ | refine okN_kald dX5_later_18 (by assumption) (by omega) (by decide) ?_
    rw [a j (by omega)]
    refine ok_iconst (v := nI 1) dX5_later_19 (by decide) ?_
    refine okN_icmp_ne (tgt := 32) dX5_later_20 (by decide) (by omega) (by omega) (fun c2 => ?_) (fun c2 => ?_)
    · have L1 := lat_1 l j (by omega) c2 (fun i h3 h4 => hj i (by omega) h4)
      refine ok_iload_n dX5_later_32 rfl ?_
      refine okN_if_ge (tgt := 38) dX5_later_33 (by decide) (by omega) ?_
      refine ok_aload_n dX5_later_38 rfl rfl ?_
      refine ok_get dX5_later_39 fl_X5_22 (by assumption) (by rfl) ?_
      refine ok_iload_n dX5_later_42 rfl ?_
      refine ok_dup2 dX5_later_43 rfl rfl ?_
      first | refine okN_iald dX5_later_44 (by assumption) (by omega) (by decide) ?_ | refine okF_iald dX5_later_44 (by assumption) (by omega) (by omega) ?_ | refine okN_kald dX5_later_44 (by assumption) (by omega) (by decide) ?_
      rw [a j (by omega)]
      refine ok_iconst (v := nI 1) dX5_later_45 (by decide) ?_
      first | refine okN_isub dX5_later_46 (by omega) ?_ | refine ok_isub dX5_later_46 ?_
      first | refine okN_iast dX5_later_47 (by assumption) (by omega) (by decide) (fun h1 hx1 he1 => ?_) | refine okC_iast dX5_later_47 (by assumption) (by omega) (by omega) (by omega) (fun h1 hx1 he1 => ?_) | refine okF_iast dX5_later_47 (by assumption) (by omega) (by omega) (fun h1 hx1 he1 => ?_) | refine okN_kast dX5_later_47 (by assumption) (by omega) (by decide) (fun h1 hx1 he1 => ?_)
      have e01 := hx1.at (by decide) e0
      refine okN_inc dX5_later_48 rfl (st_3_2 rfl) (Nat.le_of_ble_eq_true rfl) ?_
      refine ok_aload_n dX5_later_51 rfl rfl ?_
      refine ok_iload_n dX5_later_52 rfl ?_
      refine ok_iconst (v := nI 1) dX5_later_53 (by decide) ?_
      first | refine okN_iadd dX5_later_54 ?_ | refine ok_iadd dX5_later_54 ?_
      refine okR_put dX5_later_55 fl_X5_94 (by assumption) (Nat.le_of_ble_eq_true rfl) (fun _ => ⟨rfl, rfl⟩) set_24_8 (fun h2 hx2 he2 => ?_)
      have ul : (l.take j ++ [l.getD j 0 - 1]).length = j + 1 := by rw [List.length_append, List.length_take]; simp; omega
      rw [show l.length - (j + 1) + 1 = l.length - j by omega]
      have tl : (l.take j).length = j := by rw [List.length_take]; omega
      refine l_X5_fill (h := h) (c := l.getD j 0 - 1) (T := l.take j ++ (l.getD j 0 - 1) :: flN (l.getD j 0 - 1) 19 (l.length - j)) (by omega) (by omega) (fun h' x e r => k1 _ h' L1 x e r) 19 (l.length - j) (l.take j ++ [l.getD j 0 - 1]) h2 (by omega) (by omega) (by omega) ?_ (by rw [List.append_assoc]; rfl) (hx1.tr hx2 (by simp) (by simp)) (by rw [ul]; exact he2) ⟨_, hx2.at (by decide) he1, fun i hi2 => ?_⟩
      · have := ap_get2 (l := l.take j) (v := l.getD j 0 - 1)
        rw [tl] at this
        exact this
      · rw [ul] at hi2
        by_cases c : i = j
        · have := ap_get2 (l := l.take j) (v := l.getD j 0 - 1)
          rw [tl] at this
          rw [c, up_eq, this]
        · rw [up_ne c, ap_get1 (by omega), take_getD _ _ _ (by omega), a i (by omega)]
    · refine okN_inc dX5_later_23 rfl (st_3_2 rfl) (Nat.le_of_ble_eq_true rfl) ?_
      refine ok_iinc dX5_later_26 rfl (v := pr j) (pr_dec j) (st_3_1 rfl) (Nat.le_of_ble_eq_true rfl) ?_
      refine ok_goto (tgt := 9) dX5_later_29 (by decide) ?_
      rw [show l.length - (j + 1) + 1 = l.length - j by omega]
      refine ih (by omega) (fun i h3 h4 => ?_)
      by_cases c : i = j
      · rw [c]; exact c2
      · exact hj i (by omega) h4
theorem c_X5_later {l : List Nat} (ol : okl l) (e0 : hc h 46 = some (mdo fi wk ru l.length li lz kd)) (R : Rm h l) (k0 : ∀ m, latA l = .inl m → Q (some (.int (nI 0))) h) (k1 : ∀ u h', latA l = .inr u → hx [46, 51] h h' → hc h' 46 = some (mdo fi wk ru u.length li lz kd) → Rm h' u → Q (some (.int (nI 1))) h') : Ok g MX5_later (m_J g MX5_later Q) 0 [some (.ref 46), none, none] [] h 0 0 := by
  refine ok_aload_n dX5_later_0 rfl rfl ?_
  refine ok_get dX5_later_1 fl_X5_94 (by assumption) (by rfl) ?_
  refine ok_iconst (v := nI 1) dX5_later_4 (by decide) ?_
  refine ok_isub dX5_later_5 ?_
  rw [pr_sub]
  refine ok_istore_n dX5_later_6 (st_3_1 rfl) (Nat.le_of_ble_eq_true rfl) ?_
  refine ok_iconst (v := nI 0) dX5_later_7 (by decide) ?_
  refine ok_istore_n dX5_later_8 (st_3_2 rfl) (Nat.le_of_ble_eq_true rfl) ?_
  have := l_X5_later (g := g) ol e0 R k0 k1 l.length (Nat.le_refl _) (fun j h1 h2 => by omega)
  rw [Nat.sub_self] at this
  exact this
theorem l_X5_setListI {n q : Nat} {l : List Nat} {F53 G0 : Nat → Nat} {v : Value} (hq : q < 385) (ol : okl l)
    (k : ∀ h' G, hx [52] h h' → hc h' 46 = some (mdo fi wk ru l.length li q kd) → Rm h' l → hc h' 53 = some (aI 385 F53) → hc h' 52 = some (aI 6930 G) → (∀ x, x < 18 * q → G x = G0 x) → (∀ i, i < l.length → G (18 * q + i) = l.getD i 0) → ∀ z, Ok g MX5_setList (m_J g MX5_setList Q) 94 [some (.ref 46), some (.int (nI n)), some (.int (nI 1)), z] [] h' 0 0) :
    ∀ (d i : Nat) (h1 : mH) (G : Nat → Nat), i + d = l.length → hx [52] h h1 → hc h1 46 = some (mdo fi wk ru l.length li q kd) → Rm h1 l → hc h1 53 = some (aI 385 F53) → hc h1 52 = some (aI 6930 G) → (∀ x, x < 18 * q → G x = G0 x) → (∀ j, j < i → G (18 * q + j) = l.getD j 0) →
    Ok g MX5_setList (m_J g MX5_setList Q) 60 [some (.ref 46), some (.int (nI n)), some (.int (nI 1)), some (.int (nI i))] [] h1 0 0 := by
  have hlen := ol.len
  intro d
  induction d with
  | zero =>
    intro i h1 G hi x1 e0 R e53 e52 g1 g2
    refine ok_iload_n dX5_setList_60 rfl ?_
    refine ok_aload_n dX5_setList_61 rfl rfl ?_
    refine ok_get dX5_setList_62 fl_X5_94 (by assumption) (by rfl) ?_
    refine okN_icmp_ge (tgt := 94) dX5_setList_65 (by decide) (by omega) (by omega) (fun c1 => ?_) (fun c1 => ?_)
    · exact k h1 G x1 e0 R e53 e52 g1 (fun j hj => g2 j (by omega)) _
    · exact absurd c1 (by omega)
  | succ d ih =>
    intro i h1 G hi x1 e0 R e53 e52 g1 g2
    obtain ⟨F, e51, a⟩ := id R
    refine ok_iload_n dX5_setList_60 rfl ?_
    refine ok_aload_n dX5_setList_61 rfl rfl ?_
    refine ok_get dX5_setList_62 fl_X5_94 (by assumption) (by rfl) ?_
    refine okN_icmp_ge (tgt := 94) dX5_setList_65 (by decide) (by omega) (by omega) (fun c1 => ?_) (fun c1 => ?_)
    · exact absurd c1 (by omega)
    · refine ok_aload_n dX5_setList_68 rfl rfl ?_
      refine ok_get dX5_setList_69 fl_X5_29 (by assumption) (by rfl) ?_
      refine ok_bipush (v := nI 18) dX5_setList_72 (by decide) ?_
      refine ok_aload_n dX5_setList_74 rfl rfl ?_
      refine ok_get dX5_setList_75 fl_X5_104 (by assumption) (by rfl) ?_
      first | refine okN_imul dX5_setList_78 ?_ | refine ok_imul dX5_setList_78 ?_
      refine ok_iload_n dX5_setList_79 rfl ?_
      first | refine okN_iadd dX5_setList_80 ?_ | refine ok_iadd dX5_setList_80 ?_
      refine ok_aload_n dX5_setList_81 rfl rfl ?_
      refine ok_get dX5_setList_82 fl_X5_22 (by assumption) (by rfl) ?_
      refine ok_iload_n dX5_setList_85 rfl ?_
      first | refine okN_iald dX5_setList_86 (by assumption) (by omega) (by decide) ?_ | refine okF_iald dX5_setList_86 (by assumption) (by omega) (by omega) ?_ | refine okN_kald dX5_setList_86 (by assumption) (by omega) (by decide) ?_
      rw [a i c1]
      first | refine okN_iast dX5_setList_87 (by assumption) (by omega) (by decide) (fun h2 hx2 he2 => ?_) | refine okC_iast dX5_setList_87 (by assumption) (by omega) (by omega) (by omega) (fun h2 hx2 he2 => ?_) | refine okF_iast dX5_setList_87 (by assumption) (by omega) (by omega) (fun h2 hx2 he2 => ?_) | refine okN_kast dX5_setList_87 (by assumption) (by omega) (by decide) (fun h2 hx2 he2 => ?_)
      refine okN_inc dX5_setList_88 rfl (st_4_3 rfl) (Nat.le_of_ble_eq_true rfl) ?_
      refine ok_goto (tgt := 60) dX5_setList_91 (by decide) ?_
      refine ih (i + 1) h2 _ (by omega) (x1.tr' hx2) (hx2.at (by decide) e0) (R.at hx2 (by decide)) (hx2.at (by decide) e53) he2 (fun x hx4 => ?_) (fun j hj => ?_)
      · rw [up_ne (by omega), g1 x hx4]
      · by_cases c : j = i
        · rw [c, up_eq]
        · rw [up_ne (by omega), g2 j (by omega)]
theorem l_X5_setList {n : Nat} (hn : n < 19) (k : ∀ h' sz', hx [46, 51, 52, 53] h h' → hc h' 46 = some (mdo fi wk ru sz' (nI n) (cap n n) kd) → cI h' 51 20 → LSt h' n → Q none h') :
    ∀ (d q : Nat) (h1 : mH) (F52 F53 : Nat → Nat) (z : Option Value), q + d + 1 = cap n n → hx [46, 51, 52, 53] h h1 → hc h1 46 = some (mdo fi wk ru (wr n q).length (nI n) q kd) → Rm h1 (wr n q) → hc h1 52 = some (aI 6930 F52) → hc h1 53 = some (aI 385 F53) → (∀ k, k < q → F53 k = (wr n k).length ∧ ∀ i, i < (wr n k).length → F52 (18 * k + i) = (wr n k).getD i 0) →
    Ok g MX5_setList (m_J g MX5_setList Q) 41 [some (.ref 46), some (.int (nI n)), some (.int (nI 1)), z] [] h1 0 0 := by
  have cl := cap_lt hn hn
  intro d
  induction d with
  | zero =>
    intro q h1 F52 F53 z hq x1 e0 R e52 e53 f
    have ol := wr_ok (n := n) (k := q) hn (by omega)
    have hlen := ol.len
    refine ok_iload_n dX5_setList_41 rfl ?_
    refine okN_if_eq (tgt := 112) dX5_setList_42 (by decide) (by omega) (fun c1 => ?_) (fun c1 => ?_)
    · exact absurd c1 (by decide)
    refine ok_aload_n dX5_setList_45 rfl rfl ?_
    refine ok_get dX5_setList_46 fl_X5_32 (by assumption) (by rfl) ?_
    refine ok_aload_n dX5_setList_49 rfl rfl ?_
    refine ok_get dX5_setList_50 fl_X5_104 (by assumption) (by rfl) ?_
    refine ok_aload_n dX5_setList_53 rfl rfl ?_
    refine ok_get dX5_setList_54 fl_X5_94 (by assumption) (by rfl) ?_
    first | refine okN_iast dX5_setList_57 (by assumption) (by omega) (by decide) (fun h2 hx2 he2 => ?_) | refine okC_iast dX5_setList_57 (by assumption) (by omega) (by omega) (by omega) (fun h2 hx2 he2 => ?_) | refine okF_iast dX5_setList_57 (by assumption) (by omega) (by omega) (fun h2 hx2 he2 => ?_) | refine okN_kast dX5_setList_57 (by assumption) (by omega) (by decide) (fun h2 hx2 he2 => ?_)
    refine ok_iconst (v := nI 0) dX5_setList_58 (by decide) ?_
    refine ok_istore_n dX5_setList_59 (st_4_3 rfl) (Nat.le_of_ble_eq_true rfl) ?_
    refine l_X5_setListI (h := h2) (l := wr n q) (G0 := F52) (v := .null) (by omega) ol (fun h3 G x3 e03 R3 e53' e52' g1 g2 z => ?_) (wr n q).length 0 h2 F52 (by omega) hx.rf (hx2.at (by decide) e0) (R.at hx2 (by decide)) he2 (hx2.at (by decide) e52) (fun _ _ => rfl) (fun j hj => by omega)
    refine ok_aload_n dX5_setList_94 rfl rfl ?_
    refine ok_dup dX5_setList_95 rfl ?_
    refine ok_get dX5_setList_96 fl_X5_104 (by assumption) (by rfl) ?_
    refine ok_iconst (v := nI 1) dX5_setList_99 (by decide) ?_
    first | refine okN_iadd dX5_setList_100 ?_ | refine ok_iadd dX5_setList_100 ?_
    refine okR_put dX5_setList_101 fl_X5_104 (by assumption) (Nat.le_of_ble_eq_true rfl) (fun _ => ⟨rfl, rfl⟩) set_24_10 (fun h4 hx4 he4 => ?_)
    refine ok_aload_n dX5_setList_104 rfl rfl ?_
    refine call_X5_later dX5_setList_105 lk_X5_107 ⟨Nat.le_of_ble_eq_true rfl, Nat.le_of_ble_eq_true rfl, Nat.le_of_ble_eq_true rfl⟩ (by assumption) (Nat.le_of_ble_eq_true rfl) ?_
    have R4 := R3.at hx4 (by decide)
    refine c_X5_later ol he4 R4 (fun m _ => ?_) (fun u h' e _ _ _ => ?_)
    · refine ok_istore_n dX5_setList_108 (st_4_2 rfl) (Nat.le_of_ble_eq_true rfl) ?_
      refine ok_goto (tgt := 41) dX5_setList_109 (by decide) ?_
      refine ok_iload_n dX5_setList_41 rfl ?_
      refine okN_if_eq (tgt := 112) dX5_setList_42 (by decide) (by omega) (fun c2 => ?_) (fun c2 => ?_)
      · refine ok_vret dX5_setList_112 rfl ⟨Nat.le_of_ble_eq_true rfl, Nat.le_of_ble_eq_true rfl⟩ ?_
        have xx : hx [46, 51, 52, 53] h h4 := ((x1.tr hx2 (C := [46, 51, 52, 53]) (by simp) (by simp)).tr x3 (C := [46, 51, 52, 53]) (by simp) (by simp)).tr hx4 (by simp) (by simp)
        obtain ⟨F4, e4, -⟩ := R4
        refine k h4 _ xx (by rw [show cap n n = q + 1 by omega]; exact he4) ⟨F4, e4⟩ ⟨G, _, hx4.at (by decide) e52', hx4.at (by decide) e53', fun kk hk => ?_⟩
        by_cases c : kk = q
        · subst c
          exact ⟨up_eq, g2⟩
        · have hf := f kk (by omega)
          have := (wr_ok (n := n) (k := kk) hn (by omega)).len
          refine ⟨by rw [up_ne c]; exact hf.1, fun i hi => ?_⟩
          rw [g1 _ (by omega)]
          exact hf.2 i hi
      · exact absurd c2 (by decide)
    · obtain ⟨m, e2⟩ := (lat_wr (n := n) (k := q) hn (by omega)).2 (by omega)
      rw [e2] at e
      cases e
  | succ d ih =>
    intro q h1 F52 F53 z hq x1 e0 R e52 e53 f
    have ol := wr_ok (n := n) (k := q) hn (by omega)
    have hlen := ol.len
    have lw := (lat_wr (n := n) (k := q) hn (by omega)).1 (by omega)
    refine ok_iload_n dX5_setList_41 rfl ?_
    refine okN_if_eq (tgt := 112) dX5_setList_42 (by decide) (by omega) (fun c1 => ?_) (fun c1 => ?_)
    · exact absurd c1 (by decide)
    refine ok_aload_n dX5_setList_45 rfl rfl ?_
    refine ok_get dX5_setList_46 fl_X5_32 (by assumption) (by rfl) ?_
    refine ok_aload_n dX5_setList_49 rfl rfl ?_
    refine ok_get dX5_setList_50 fl_X5_104 (by assumption) (by rfl) ?_
    refine ok_aload_n dX5_setList_53 rfl rfl ?_
    refine ok_get dX5_setList_54 fl_X5_94 (by assumption) (by rfl) ?_
    first | refine okN_iast dX5_setList_57 (by assumption) (by omega) (by decide) (fun h2 hx2 he2 => ?_) | refine okC_iast dX5_setList_57 (by assumption) (by omega) (by omega) (by omega) (fun h2 hx2 he2 => ?_) | refine okF_iast dX5_setList_57 (by assumption) (by omega) (by omega) (fun h2 hx2 he2 => ?_) | refine okN_kast dX5_setList_57 (by assumption) (by omega) (by decide) (fun h2 hx2 he2 => ?_)
    refine ok_iconst (v := nI 0) dX5_setList_58 (by decide) ?_
    refine ok_istore_n dX5_setList_59 (st_4_3 rfl) (Nat.le_of_ble_eq_true rfl) ?_
    refine l_X5_setListI (h := h2) (l := wr n q) (G0 := F52) (v := .null) (by omega) ol (fun h3 G x3 e03 R3 e53' e52' g1 g2 z => ?_) (wr n q).length 0 h2 F52 (by omega) hx.rf (hx2.at (by decide) e0) (R.at hx2 (by decide)) he2 (hx2.at (by decide) e52) (fun _ _ => rfl) (fun j hj => by omega)
    refine ok_aload_n dX5_setList_94 rfl rfl ?_
    refine ok_dup dX5_setList_95 rfl ?_
    refine ok_get dX5_setList_96 fl_X5_104 (by assumption) (by rfl) ?_
    refine ok_iconst (v := nI 1) dX5_setList_99 (by decide) ?_
    first | refine okN_iadd dX5_setList_100 ?_ | refine ok_iadd dX5_setList_100 ?_
    refine okR_put dX5_setList_101 fl_X5_104 (by assumption) (Nat.le_of_ble_eq_true rfl) (fun _ => ⟨rfl, rfl⟩) set_24_10 (fun h4 hx4 he4 => ?_)
    refine ok_aload_n dX5_setList_104 rfl rfl ?_
    refine call_X5_later dX5_setList_105 lk_X5_107 ⟨Nat.le_of_ble_eq_true rfl, Nat.le_of_ble_eq_true rfl, Nat.le_of_ble_eq_true rfl⟩ (by assumption) (Nat.le_of_ble_eq_true rfl) ?_
    have R4 := R3.at hx4 (by decide)
    refine c_X5_later ol he4 R4 (fun m e => ?_) (fun u h5 e x5 e05 R5 => ?_)
    · rw [lw] at e
      cases e
    · rw [lw] at e
      cases e
      have xx : hx [46, 51, 52, 53] h h5 := (((x1.tr hx2 (C := [46, 51, 52, 53]) (by simp) (by simp)).tr x3 (C := [46, 51, 52, 53]) (by simp) (by simp)).tr hx4 (C := [46, 51, 52, 53]) (by simp) (by simp)).tr x5 (by simp) (by simp)
      refine ok_istore_n dX5_setList_108 (st_4_2 rfl) (Nat.le_of_ble_eq_true rfl) ?_
      refine ok_goto (tgt := 41) dX5_setList_109 (by decide) ?_
      refine ih (q + 1) h5 G _ _ (by omega) xx e05 R5 (x5.at (by decide) (hx4.at (by decide) e52')) (x5.at (by decide) (hx4.at (by decide) e53')) (fun kk hk => ?_)
      by_cases c : kk = q
      · subst c
        exact ⟨up_eq, g2⟩
      · have hf := f kk (by omega)
        have := (wr_ok (n := n) (k := kk) hn (by omega)).len
        refine ⟨by rw [up_ne c]; exact hf.1, fun i hi => ?_⟩
        rw [g1 _ (by omega)]
        exact hf.2 i hi
theorem c_X5_setList {n : Nat} (I : MI h S sz li lz kd) (hn : n < 19) (k : ∀ h' sz', hx [46, 51, 52, 53] h h' → MI h' S sz' (nI n) (cap n n) kd → Q none h') : Ok g MX5_setList (m_J g MX5_setList Q) 0 [some (.ref 46), some (.int (nI n)), none, none] [] h 0 0 := by
  obtain ⟨e0, k1, k2, k3, ⟨F52, F53, e52, e53, -⟩, ⟨r1, ⟨F51, e51⟩, r3, r4, r5, r6⟩, k6, k7⟩ := id I
  have w0 := wr_0 n hn
  have cl := cap_lt hn hn
  have cp : 0 < cap n n := by
    have := NN_pos n (by omega)
    unfold NN at this
    rw [Nat.mod_eq_of_lt hn] at this
    exact this
  refine ok_aload_n dX5_setList_0 rfl rfl ?_
  refine ok_get dX5_setList_1 fl_X5_25 (by assumption) (by rfl) ?_
  refine ok_iload_n dX5_setList_4 rfl ?_
  refine ok_icmp_ne (tgt := 9) dX5_setList_5 (by decide) (fun c1 => ?_) (fun c1 => ?_)
  · refine ok_aload_n dX5_setList_9 rfl rfl ?_
    refine ok_iload_n dX5_setList_10 rfl ?_
    refine okR_put dX5_setList_11 fl_X5_25 (by assumption) (Nat.le_of_ble_eq_true rfl) (fun _ => ⟨rfl, rfl⟩) set_24_9 (fun h1 hx1 he1 => ?_)
    refine ok_aload_n dX5_setList_14 rfl rfl ?_
    refine ok_iconst (v := nI 0) dX5_setList_15 (by decide) ?_
    refine okR_put dX5_setList_16 fl_X5_104 (by assumption) (Nat.le_of_ble_eq_true rfl) (fun _ => ⟨rfl, rfl⟩) set_24_10 (fun h2 hx2 he2 => ?_)
    refine ok_aload_n dX5_setList_19 rfl rfl ?_
    refine ok_iload_n dX5_setList_20 rfl ?_
    have rest : ∀ b, b = (wr n 0).length → Ok g MX5_setList (m_J g MX5_setList Q) 29 [some (.ref 46), some (.int (nI n)), none, none] [.int (nI b), .ref 46] h2 0 0 := by
      intro b hb
      subst hb
      refine okR_put dX5_setList_29 fl_X5_94 (by assumption) (Nat.le_of_ble_eq_true rfl) (fun _ => ⟨rfl, rfl⟩) set_24_8 (fun h3 hx3 he3 => ?_)
      have e513 := hx3.at (by decide) (hx2.at (by decide) (hx1.at (by decide) e51))
      refine ok_aload_n dX5_setList_32 rfl rfl ?_
      refine ok_get dX5_setList_33 fl_X5_22 (by assumption) (by rfl) ?_
      refine ok_iconst (v := nI 0) dX5_setList_36 (by decide) ?_
      refine ok_iload_n dX5_setList_37 rfl ?_
      first | refine okN_iast dX5_setList_38 (by assumption) (by omega) (by decide) (fun h4 hx4 he4 => ?_) | refine okC_iast dX5_setList_38 (by assumption) (by omega) (by omega) (by omega) (fun h4 hx4 he4 => ?_) | refine okF_iast dX5_setList_38 (by assumption) (by omega) (by omega) (fun h4 hx4 he4 => ?_) | refine okN_kast dX5_setList_38 (by assumption) (by omega) (by decide) (fun h4 hx4 he4 => ?_)
      refine ok_iconst (v := nI 1) dX5_setList_39 (by decide) ?_
      refine ok_istore_n dX5_setList_40 (st_4_2 rfl) (Nat.le_of_ble_eq_true rfl) ?_
      have x4 : hx [46, 51] h h4 := ((hx1.tr hx2 (C := [46, 51]) (by simp) (by simp)).tr hx3 (C := [46, 51]) (by simp) (by simp)).tr hx4 (by simp) (by simp)
      refine l_X5_setList (h := h4) hn (fun h' sz' x e0' e51' L => ?_) (cap n n - 1) 0 h4 F52 F53 _ (by omega) hx.rf (hx4.at (by decide) he3) ⟨_, he4, fun i hi => ?_⟩ (x4.at (by decide) e52) (x4.at (by decide) e53) (fun k hk => by omega)
      · have xx : hx [46, 51, 52, 53] h h' := x4.tr x (by simp) (by simp)
        obtain ⟨G52, G53, l52, l53, lL⟩ := L
        exact k h' sz' xx ⟨e0', k1.at xx (by decide), k2.at xx (by decide), k3.at xx (by decide), ⟨G52, G53, l52, l53, Or.inr ⟨n, hn, rfl, rfl, lL⟩⟩, ⟨r1.at xx (by decide), e51', fun a l1 l2 => (r3 a l1 l2).at xx (by simp <;> omega), r4.at xx (by decide), fun a l1 l2 => (r5 a l1 l2).at xx (by simp <;> omega), r6.at xx (by decide)⟩, k6, k7⟩
      · rw [w0] at hi ⊢
        by_cases c : n = 0
        · rw [if_pos c] at hi; simp at hi
        · rw [if_neg c] at hi ⊢
          have : i = 0 := by simpa using hi
          subst this
          rw [up_eq]; rfl
    refine okN_if_le (tgt := 28) dX5_setList_21 (by decide) (by omega) (fun c2 => ?_) (fun c2 => ?_)
    · refine ok_iconst (v := nI 0) dX5_setList_28 (by decide) ?_
      exact rest 0 (by rw [w0, if_pos c2]; rfl)
    · refine ok_iconst (v := nI 1) dX5_setList_24 (by decide) ?_
      refine ok_goto (tgt := 29) dX5_setList_25 (by decide) ?_
      exact rest 1 (by rw [w0, if_neg (by omega)]; rfl)
  · refine ok_vret dX5_setList_8 rfl ⟨Nat.le_of_ble_eq_true rfl, Nat.le_of_ble_eq_true rfl⟩ ?_
    subst c1
    obtain ⟨z1, z2⟩ := I.lst hn
    subst z1
    exact k h sz hx.rf I
theorem l_X5_against {l m : List Nat} {p : Nat} {F F52 F53 : Nat → Nat} (ol : okl l) (om : okl m) (hp : p < 385) (e0 : hc h 46 = some (mdo fi wk ru l.length li lz kd)) (e51 : hc h 51 = some (aI 20 F)) (a : arr F l) (e52 : hc h 52 = some (aI 6930 F52)) (e53 : hc h 53 = some (aI 385 F53)) (f3 : F53 p = m.length) (f2 : ∀ i, i < m.length → F52 (18 * p + i) = m.getD i 0) (k : Q (some (.int (agL l m))) h) :
    ∀ (d i : Nat), i + d = l.length → agL l m = agL (l.drop i) (m.drop i) → Ok g MX5_against (m_J g MX5_against Q) 2 [some (.ref 46), some (.int (nI p)), some (.int (nI i))] [] h 0 0 := by
  have hlen := ol.len
  have hlen' := om.len
  have hs := ol.2.2
  have hs' := om.2.2
  intro d
  induction d with
  | zero =>
    intro i hi ha
    refine ok_iload_n dX5_against_2 rfl ?_
    refine ok_aload_n dX5_against_3 rfl rfl ?_
    refine ok_get dX5_against_4 fl_X5_94 (by assumption) (by rfl) ?_
    refine okN_icmp_ge (tgt := 65) dX5_against_7 (by decide) (by omega) (by omega) (fun c1 => ?_) (fun c1 => ?_)
    · refine ok_iconst (v := nI 0) dX5_against_65 (by decide) ?_
      refine ok_iret dX5_against_66 rfl rfl ⟨Nat.le_of_ble_eq_true rfl, Nat.le_of_ble_eq_true rfl⟩ ?_
      rw [List.drop_eq_nil_of_le (by omega), ag_nil] at ha
      rw [ha] at k
      exact k
    · exact absurd c1 (by omega)
  | succ d ih =>
    intro i hi ha
    have gb := gd_sum l i
    have gb' := gd_sum m i
    refine ok_iload_n dX5_against_2 rfl ?_
    refine ok_aload_n dX5_against_3 rfl rfl ?_
    refine ok_get dX5_against_4 fl_X5_94 (by assumption) (by rfl) ?_
    refine okN_icmp_ge (tgt := 65) dX5_against_7 (by decide) (by omega) (by omega) (fun c1 => ?_) (fun c1 => ?_)
    · exact absurd c1 (by omega)
    · refine ok_iload_n dX5_against_10 rfl ?_
      refine ok_aload_n dX5_against_11 rfl rfl ?_
      refine ok_get dX5_against_12 fl_X5_32 (by assumption) (by rfl) ?_
      refine ok_iload_n dX5_against_15 rfl ?_
      first | refine okN_iald dX5_against_16 (by assumption) (by omega) (by decide) ?_ | refine okF_iald dX5_against_16 (by assumption) (by omega) (by omega) ?_ | refine okN_kald dX5_against_16 (by assumption) (by omega) (by decide) ?_
      rw [f3]
      refine okN_icmp_ge (tgt := 65) dX5_against_17 (by decide) (by omega) (by omega) (fun c2 => ?_) (fun c2 => ?_)
      · refine ok_iconst (v := nI 0) dX5_against_65 (by decide) ?_
        refine ok_iret dX5_against_66 rfl rfl ⟨Nat.le_of_ble_eq_true rfl, Nat.le_of_ble_eq_true rfl⟩ ?_
        rw [List.drop_eq_nil_of_le (as := m) (by omega), ag_nil'] at ha
        rw [ha] at k
        exact k
      · rw [drop_cons l i c1, drop_cons m i c2] at ha
        have ha' : agL l m = if l.getD i 0 = m.getD i 0 then agL (l.drop (i + 1)) (m.drop (i + 1)) else nI (m.getD i 0) - nI (l.getD i 0) := ha
        refine ok_aload_n dX5_against_20 rfl rfl ?_
        refine ok_get dX5_against_21 fl_X5_22 (by assumption) (by rfl) ?_
        refine ok_iload_n dX5_against_24 rfl ?_
        first | refine okN_iald dX5_against_25 (by assumption) (by omega) (by decide) ?_ | refine okF_iald dX5_against_25 (by assumption) (by omega) (by omega) ?_ | refine okN_kald dX5_against_25 (by assumption) (by omega) (by decide) ?_
        refine ok_aload_n dX5_against_26 rfl rfl ?_
        refine ok_get dX5_against_27 fl_X5_29 (by assumption) (by rfl) ?_
        refine ok_bipush (v := nI 18) dX5_against_30 (by decide) ?_
        refine ok_iload_n dX5_against_32 rfl ?_
        first | refine okN_imul dX5_against_33 ?_ | refine ok_imul dX5_against_33 ?_
        refine ok_iload_n dX5_against_34 rfl ?_
        first | refine okN_iadd dX5_against_35 ?_ | refine ok_iadd dX5_against_35 ?_
        first | refine okN_iald dX5_against_36 (by assumption) (by omega) (by decide) ?_ | refine okF_iald dX5_against_36 (by assumption) (by omega) (by omega) ?_ | refine okN_kald dX5_against_36 (by assumption) (by omega) (by decide) ?_
        rw [a i c1, f2 i c2]
        refine okN_icmp_eq (tgt := 59) dX5_against_37 (by decide) (by omega) (by omega) (fun c3 => ?_) (fun c3 => ?_)
        · rw [if_pos c3] at ha'
          refine okN_inc dX5_against_59 rfl (st_3_2 rfl) (Nat.le_of_ble_eq_true rfl) ?_
          refine ok_goto (tgt := 2) dX5_against_62 (by decide) ?_
          exact ih (i + 1) (by omega) ha'
        · rw [if_neg c3] at ha'
          rw [ha'] at k
          refine ok_aload_n dX5_against_40 rfl rfl ?_
          refine ok_get dX5_against_41 fl_X5_29 (by assumption) (by rfl) ?_
          refine ok_bipush (v := nI 18) dX5_against_44 (by decide) ?_
          refine ok_iload_n dX5_against_46 rfl ?_
          first | refine okN_imul dX5_against_47 ?_ | refine ok_imul dX5_against_47 ?_
          refine ok_iload_n dX5_against_48 rfl ?_
          first | refine okN_iadd dX5_against_49 ?_ | refine ok_iadd dX5_against_49 ?_
          first | refine okN_iald dX5_against_50 (by assumption) (by omega) (by decide) ?_ | refine okF_iald dX5_against_50 (by assumption) (by omega) (by omega) ?_ | refine okN_kald dX5_against_50 (by assumption) (by omega) (by decide) ?_
          refine ok_aload_n dX5_against_51 rfl rfl ?_
          refine ok_get dX5_against_52 fl_X5_22 (by assumption) (by rfl) ?_
          refine ok_iload_n dX5_against_55 rfl ?_
          first | refine okN_iald dX5_against_56 (by assumption) (by omega) (by decide) ?_ | refine okF_iald dX5_against_56 (by assumption) (by omega) (by omega) ?_ | refine okN_kald dX5_against_56 (by assumption) (by omega) (by decide) ?_
          rw [a i c1, f2 i c2]
          refine ok_isub dX5_against_57 ?_
          refine ok_iret dX5_against_58 rfl rfl ⟨Nat.le_of_ble_eq_true rfl, Nat.le_of_ble_eq_true rfl⟩ ?_
          exact k
theorem c_X5_against {l : List Nat} {n p : Nat} (ol : okl l) (hn : n < 19) (hp : p < cap n n) (e0 : hc h 46 = some (mdo fi wk ru l.length li lz kd)) (R : Rm h l) (L : LSt h n) (k : Q (some (.int (agL l (wr n p)))) h) : Ok g MX5_against (m_J g MX5_against Q) 0 [some (.ref 46), some (.int (nI p)), none] [] h 0 0 := by
  obtain ⟨F, e51, a⟩ := R
  obtain ⟨F52, F53, e52, e53, hL⟩ := L
  have cl := cap_lt hn hn
  refine ok_iconst (v := nI 0) dX5_against_0 (by decide) ?_
  refine ok_istore_n dX5_against_1 (st_3_2 rfl) (Nat.le_of_ble_eq_true rfl) ?_
  exact l_X5_against ol (wr_ok hn hp) (by omega) e0 e51 a e52 e53 (hL p hp).1 (hL p hp).2 k l.length 0 (by omega) rfl
theorem l_X5_rankRow {l : List Nat} {n : Nat} (ol : okl l) (hn : n < 19) (hs : l.sum = n) (e0 : hc h 46 = some (mdo fi wk ru l.length li lz kd)) (R : Rm h l) (L : LSt h n) (k : Q (some (.int (nI (nb l)))) h) :
    ∀ (d lo hi : Nat) (z3 z4 : Option Value), hi < lo + d → lo ≤ nb l → nb l ≤ hi → hi < cap n n → m_c2 z3 = false → Ok g MX5_rankRow (m_J g MX5_rankRow Q) 9 [some (.ref 46), some (.int (nI lo)), some (.int (nI hi)), z3, z4] [] h 0 0 := by
  subst hs
  have cl := cap_lt hn hn
  have gl := ol.g
  intro d
  induction d with
  | zero => intro lo hi z3 z4 h1 h2 h3 h4; omega
  | succ d ih =>
    intro lo hi z3 z4 h1 h2 h3 h4 hz
    refine ok_iload_n dX5_rankRow_9 rfl ?_
    refine ok_iload_n dX5_rankRow_10 rfl ?_
    refine okN_icmp_ge (tgt := 63) dX5_rankRow_11 (by decide) (by omega) (by omega) (fun c1 => ?_) (fun c1 => ?_)
    · refine ok_iload_n dX5_rankRow_63 rfl ?_
      refine ok_iret dX5_rankRow_64 rfl rfl ⟨Nat.le_of_ble_eq_true rfl, Nat.le_of_ble_eq_true rfl⟩ ?_
      rw [show lo = nb l by omega]
      exact k
    · have hm : (lo + hi) / 2 < cap l.sum l.sum := by omega
      refine ok_iload_n dX5_rankRow_14 rfl ?_
      refine ok_iload_n dX5_rankRow_15 rfl ?_
      first | refine okN_iadd dX5_rankRow_16 ?_ | refine ok_iadd dX5_rankRow_16 ?_
      refine ok_iconst (v := nI 2) dX5_rankRow_17 (by decide) ?_
      refine okN_idiv dX5_rankRow_18 (by omega) (by omega) (by omega) ?_
      refine ok_istore_n dX5_rankRow_19 (st_5_3 rfl) (Nat.le_of_ble_eq_true rfl) ?_
      refine ok_aload_n dX5_rankRow_20 rfl rfl ?_
      refine ok_iload_n dX5_rankRow_21 rfl ?_
      refine call_X5_against dX5_rankRow_22 lk_X5_111 ⟨Nat.le_of_ble_eq_true rfl, Nat.le_of_ble_eq_true rfl, Nat.le_of_ble_eq_true rfl⟩ (by assumption) (Nat.le_of_ble_eq_true rfl) ?_
      refine c_X5_against ol hn hm e0 R L ?_
      obtain ⟨w1, w2⟩ := chk_W hn hm
      have gw := (wr_ok hn hm).g
      rw [w1] at gw
      have cmp := ag_cmp l (wr l.sum ((lo + hi) / 2)) _ _ gl gw
      rw [← nb_eq] at cmp
      rw [nb_eq, w1] at w2
      rw [w2] at cmp
      generalize agL l (wr l.sum ((lo + hi) / 2)) = A at cmp ⊢
      refine ok_istore dX5_rankRow_25 (st_5_4 rfl) (Nat.le_of_ble_eq_true rfl) ?_
      refine ok_iload dX5_rankRow_27 rfl ?_
      refine ok_if_ne (tgt := 34) dX5_rankRow_29 (by decide) (fun c2 => ?_) (fun c2 => ?_)
      · refine ok_iload dX5_rankRow_34 rfl ?_
        refine ok_if_ge (tgt := 43) dX5_rankRow_36 (by decide) (fun c3 => ?_) (fun c3 => ?_)
        · have lt : (lo + hi) / 2 < nb l := by
            rcases cmp with ⟨e1, -⟩ | ⟨e1, -⟩ | ⟨-, e2⟩
            · exact absurd e1 c2
            · exact e1
            · rw [Int32.le_iff_toInt_le] at c3
              rw [Int32.lt_iff_toInt_lt] at e2
              omega
          refine ok_iload_n dX5_rankRow_43 rfl ?_
          refine ok_iconst (v := nI 1) dX5_rankRow_44 (by decide) ?_
          first | refine okN_iadd dX5_rankRow_45 ?_ | refine ok_iadd dX5_rankRow_45 ?_
          refine ok_istore_n dX5_rankRow_46 (st_5_1 rfl) (Nat.le_of_ble_eq_true rfl) ?_
          refine ok_iload dX5_rankRow_47 rfl ?_
          refine ok_if_ge (tgt := 58) dX5_rankRow_49 (by decide) (fun c4 => ?_) (fun c4 => ?_)
          · refine ok_iload_n dX5_rankRow_58 rfl ?_
            refine ok_istore_n dX5_rankRow_59 (st_5_2 rfl) (Nat.le_of_ble_eq_true rfl) ?_
            refine ok_goto (tgt := 9) dX5_rankRow_60 (by decide) ?_
            exact ih ((lo + hi) / 2 + 1) hi _ _ (by omega) (by omega) h3 h4 rfl
          · exact absurd c3 c4
        · have lt : nb l < (lo + hi) / 2 := by
            rcases cmp with ⟨e1, -⟩ | ⟨-, e2⟩ | ⟨e1, -⟩
            · exact absurd e1 c2
            · rw [Int32.le_iff_toInt_le] at c3
              rw [Int32.lt_iff_toInt_lt] at e2
              omega
            · exact e1
          refine ok_iload_n dX5_rankRow_39 rfl ?_
          refine ok_goto (tgt := 46) dX5_rankRow_40 (by decide) ?_
          refine ok_istore_n dX5_rankRow_46 (st_5_1 rfl) (Nat.le_of_ble_eq_true rfl) ?_
          refine ok_iload dX5_rankRow_47 rfl ?_
          refine ok_if_ge (tgt := 58) dX5_rankRow_49 (by decide) (fun c4 => ?_) (fun c4 => ?_)
          · exact absurd c4 c3
          · refine ok_iload_n dX5_rankRow_52 rfl ?_
            refine ok_iconst (v := nI 1) dX5_rankRow_53 (by decide) ?_
            first | refine okN_isub dX5_rankRow_54 (by omega) ?_ | refine ok_isub dX5_rankRow_54 ?_
            refine ok_goto (tgt := 59) dX5_rankRow_55 (by decide) ?_
            refine ok_istore_n dX5_rankRow_59 (st_5_2 rfl) (Nat.le_of_ble_eq_true rfl) ?_
            refine ok_goto (tgt := 9) dX5_rankRow_60 (by decide) ?_
            exact ih lo ((lo + hi) / 2 - 1) _ _ (by omega) h2 (by omega) (by omega) rfl
      · refine ok_iload_n dX5_rankRow_32 rfl ?_
        refine ok_iret dX5_rankRow_33 rfl rfl ⟨Nat.le_of_ble_eq_true rfl, Nat.le_of_ble_eq_true rfl⟩ ?_
        rcases cmp with ⟨-, e2⟩ | ⟨-, e2⟩ | ⟨-, e2⟩
        · have : nb l = (lo + hi) / 2 := by rw [nb_eq, ← w2, ← e2]
          rw [← this]
          exact k
        · rw [c2] at e2; exact absurd e2 (by decide)
        · rw [c2] at e2; exact absurd e2 (by decide)
theorem c_X5_rankRow {l : List Nat} {n : Nat} (ol : okl l) (hn : n < 19) (hs : l.sum = n) (e0 : hc h 46 = some (mdo fi wk ru l.length li (cap n n) kd)) (R : Rm h l) (L : LSt h n) (k : Q (some (.int (nI (nb l)))) h) : Ok g MX5_rankRow (m_J g MX5_rankRow Q) 0 [some (.ref 46), none, none, none, none] [] h 0 0 := by
  have h1 := nb_lt ol
  rw [hs] at h1
  have cl := cap_lt hn hn
  refine ok_iconst (v := nI 0) dX5_rankRow_0 (by decide) ?_
  refine ok_istore_n dX5_rankRow_1 (st_5_1 rfl) (Nat.le_of_ble_eq_true rfl) ?_
  refine ok_aload_n dX5_rankRow_2 rfl rfl ?_
  refine ok_get dX5_rankRow_3 fl_X5_104 (by assumption) (by rfl) ?_
  refine ok_iconst (v := nI 1) dX5_rankRow_6 (by decide) ?_
  first | refine okN_isub dX5_rankRow_7 (by omega) ?_ | refine ok_isub dX5_rankRow_7 ?_
  refine ok_istore_n dX5_rankRow_8 (st_5_2 rfl) (Nat.le_of_ble_eq_true rfl) ?_
  exact l_X5_rankRow ol hn hs e0 R L k (cap n n + 1) 0 (cap n n - 1) _ _ (by omega) (by omega) (by omega) (by omega) rfl
end MLIST
