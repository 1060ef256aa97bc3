/-! ===== numbers, arrays of numbers, what changed ===== -/
def up {α : Type} (F : Nat → α) (k : Nat) (x : α) : Nat → α := fun j => if j = k then x else F j
theorem up_eq {α : Type} {F : Nat → α} {k : Nat} {x : α} : up F k x k = x := by simp [up]
theorem up_ne {α : Type} {F : Nat → α} {k j : Nat} {x : α} (n : j ≠ k) : up F k x j = F j := by simp [up, n]
def aI (n : Nat) (F : Nat → Nat) : mE := .inl (.int, n, .inl (fun i => nI (F i)))
def aJ (n : Nat) (F : Nat → Int64) : mE := .inl (.long, n, .inr (.inl F))
def aK (n : Nat) (F : Nat → Int32) : mE := .inl (.int, n, .inl F)
def aZ (n : Nat) (F : Nat → Int32) : mE := .inl (.boolean, n, .inl F)
def aA (C : String) (n : Nat) (F : Nat → Option Nat) : mE := .inl (.object C, n, .inr (.inr (.inr (.inr F))))
theorem aI_upd (F : Nat → Nat) (k x : Nat) : upd (fun i => nI (F i)) k (nI x) = fun i => nI (up F k x i) := by
  funext j
  by_cases c : j = k
  · subst c; simp [upd, up]
  · simp [upd, up, c]
theorem aK_upd (F : Nat → Int32) (k : Nat) (x : Int32) : upd F k x = up F k x := by
  funext j
  by_cases c : j = k
  · subst c; simp [upd, up]
  · simp [upd, up, c]
theorem aJ_upd (F : Nat → Int64) (k : Nat) (x : Int64) : vp_updL F k x = up F k x := by
  funext j
  by_cases c : j = k
  · subst c; simp [vp_updL, up]
  · simp [vp_updL, up, c]
theorem aA_upd (F : Nat → Option Nat) (k : Nat) (x : Option Nat) : va_up F k x = up F k x := by
  funext j
  by_cases c : j = k
  · subst c; simp [va_up, up]
  · simp [va_up, up, c]
/-- h' is h but for the cells A -/
def hx (A : List Nat) (h h' : mH) : Prop := h'.1 = h.1 ∧ ∀ q, q ∉ A → hc h' q = hc h q
theorem hx.rf {A : List Nat} {h : mH} : hx A h h := ⟨rfl, fun _ _ => rfl⟩
theorem hx.tr {A B C : List Nat} {h h1 h2 : mH} (a : hx A h h1) (b : hx B h1 h2) (hA : ∀ q ∈ A, q ∈ C) (hB : ∀ q ∈ B, q ∈ C) : hx C h h2 :=
  ⟨b.1.trans a.1, fun q n => (b.2 q (fun z => n (hB q z))).trans (a.2 q (fun z => n (hA q z)))⟩
theorem hx.tr' {A : List Nat} {h h1 h2 : mH} (a : hx A h h1) (b : hx A h1 h2) : hx A h h2 := a.tr b (fun _ q => q) (fun _ q => q)
theorem hx.mono {A C : List Nat} {h h1 : mH} (a : hx A h h1) (hA : ∀ q ∈ A, q ∈ C) : hx C h h1 := ⟨a.1, fun q n => a.2 q (fun z => n (hA q z))⟩
theorem hx_hs (h : mH) (a : Nat) (x : mE) : hx [a] h (hs h a x) := ⟨rfl, fun q n => hc_hs_ne (fun e => n (by simp [e]))⟩
theorem hx.at {A : List Nat} {h h1 : mH} {q : Nat} {x : mE} (a : hx A h h1) (n : q ∉ A) (e : hc h q = some x) : hc h1 q = some x := (a.2 q n).trans e
section BASE
variable {g : mG} {M : mM} {J : mJ} {pc : Nat} {L L' : List (Option Value)} {st : List Value} {h : mH} {uc us : Nat}
theorem okN_iadd {a b : Nat} (hd : decode M.2.1 pc = .ok (.iadd, 1)) (k : Ok g M J (pc + 1) L (.int (nI (a + b)) :: st) h uc us) : Ok g M J pc L (.int (nI b) :: .int (nI a) :: st) h uc us := ok_iadd hd (by rw [nI_add]; exact k)
theorem okN_isub {a b : Nat} (hd : decode M.2.1 pc = .ok (.isub, 1)) (hb : b ≤ a) (k : Ok g M J (pc + 1) L (.int (nI (a - b)) :: st) h uc us) : Ok g M J pc L (.int (nI b) :: .int (nI a) :: st) h uc us := ok_isub hd (by rw [pk_sub hb]; exact k)
theorem okN_imul {a b : Nat} (hd : decode M.2.1 pc = .ok (.imul, 1)) (k : Ok g M J (pc + 1) L (.int (nI (a * b)) :: st) h uc us) : Ok g M J pc L (.int (nI b) :: .int (nI a) :: st) h uc us := ok_imul hd (by rw [pk_mul]; exact k)
theorem okN_idiv {a b : Nat} (hd : decode M.2.1 pc = .ok (.idiv, 1)) (ha : a < 2 ^ 31) (h0 : 0 < b) (hb : b < 2 ^ 31) (k : Ok g M J (pc + 1) L (.int (nI (a / b)) :: st) h uc us) : Ok g M J pc L (.int (nI b) :: .int (nI a) :: st) h uc us := ok_idiv hd (nI_ne0 h0 hb) (by rw [pk_div ha h0 hb]; exact k)
theorem okN_inc {i a : Nat} (hd : decode M.2.1 pc = .ok (.iinc i 1, 3)) (hx : m_at L i = some (.int (nI a))) (hL : m_st L i (.int (nI (a + 1))) = L') (hi : i < M.2.2.1) (k : Ok g M J (pc + 3) L' st h uc us) : Ok g M J pc L st h uc us := ok_iinc hd hx (v := nI (a + 1)) (by rw [← nI_1]; rfl) hL hi k
theorem okN_dec {i a : Nat} (hd : decode M.2.1 pc = .ok (.iinc i (-1), 3)) (hx : m_at L i = some (.int (nI a))) (ha : 0 < a) (hL : m_st L i (.int (nI (a - 1))) = L') (hi : i < M.2.2.1) (k : Ok g M J (pc + 3) L' st h uc us) : Ok g M J pc L st h uc us := by
  obtain ⟨b, rfl⟩ : ∃ b, a = b + 1 := ⟨a - 1, by omega⟩
  have e : Int32.ofInt (-1) = -1 := by decide
  exact ok_iinc hd hx (v := nI b) (by rw [e]; exact pk_m1 b) hL hi k
theorem okN_icmp_eq {a b tgt : Nat} {off : Int} (hd : decode M.2.1 pc = .ok (.if_icmp .eq off, 3)) (ht : (pc : Int) + off = (tgt : Int)) (ha : a < 2 ^ 31) (hb : b < 2 ^ 31) (kt : a = b → Ok g M J tgt L st h uc us) (kf : a ≠ b → Ok g M J (pc + 3) L st h uc us) : Ok g M J pc L (.int (nI b) :: .int (nI a) :: st) h uc us := ok_icmp_eq hd ht (fun c => kt ((nI_eq ha hb).mp c)) (fun c => kf (fun e => c ((nI_eq ha hb).mpr e)))
theorem okN_icmp_ne {a b tgt : Nat} {off : Int} (hd : decode M.2.1 pc = .ok (.if_icmp .ne off, 3)) (ht : (pc : Int) + off = (tgt : Int)) (ha : a < 2 ^ 31) (hb : b < 2 ^ 31) (kt : a ≠ b → Ok g M J tgt L st h uc us) (kf : a = b → Ok g M J (pc + 3) L st h uc us) : Ok g M J pc L (.int (nI b) :: .int (nI a) :: st) h uc us := ok_icmp_ne hd ht (fun c => kt (fun e => c ((nI_eq ha hb).mpr e))) (fun c => kf ((nI_eq ha hb).mp c))
theorem okN_icmp_lt {a b tgt : Nat} {off : Int} (hd : decode M.2.1 pc = .ok (.if_icmp .lt off, 3)) (ht : (pc : Int) + off = (tgt : Int)) (ha : a < 2 ^ 31) (hb : b < 2 ^ 31) (kt : a < b → Ok g M J tgt L st h uc us) (kf : b ≤ a → Ok g M J (pc + 3) L st h uc us) : Ok g M J pc L (.int (nI b) :: .int (nI a) :: st) h uc us := ok_icmp_lt hd ht (fun c => kt ((nI_ltI ha hb).mp c)) (fun c => kf (Nat.le_of_not_lt fun e => c ((nI_ltI ha hb).mpr e)))
theorem okN_icmp_ge {a b tgt : Nat} {off : Int} (hd : decode M.2.1 pc = .ok (.if_icmp .ge off, 3)) (ht : (pc : Int) + off = (tgt : Int)) (ha : a < 2 ^ 31) (hb : b < 2 ^ 31) (kt : b ≤ a → Ok g M J tgt L st h uc us) (kf : a < b → Ok g M J (pc + 3) L st h uc us) : Ok g M J pc L (.int (nI b) :: .int (nI a) :: st) h uc us := ok_icmp_ge hd ht (fun c => kt ((nI_leI hb ha).mp c)) (fun c => kf (Nat.lt_of_not_le fun e => c ((nI_leI hb ha).mpr e)))
theorem okN_icmp_gt {a b tgt : Nat} {off : Int} (hd : decode M.2.1 pc = .ok (.if_icmp .gt off, 3)) (ht : (pc : Int) + off = (tgt : Int)) (ha : a < 2 ^ 31) (hb : b < 2 ^ 31) (kt : b < a → Ok g M J tgt L st h uc us) (kf : a ≤ b → Ok g M J (pc + 3) L st h uc us) : Ok g M J pc L (.int (nI b) :: .int (nI a) :: st) h uc us := ok_icmp_gt hd ht (fun c => kt ((nI_ltI hb ha).mp c)) (fun c => kf (Nat.le_of_not_lt fun e => c ((nI_ltI hb ha).mpr e)))
theorem okN_icmp_le {a b tgt : Nat} {off : Int} (hd : decode M.2.1 pc = .ok (.if_icmp .le off, 3)) (ht : (pc : Int) + off = (tgt : Int)) (ha : a < 2 ^ 31) (hb : b < 2 ^ 31) (kt : a ≤ b → Ok g M J tgt L st h uc us) (kf : b < a → Ok g M J (pc + 3) L st h uc us) : Ok g M J pc L (.int (nI b) :: .int (nI a) :: st) h uc us := ok_icmp_le hd ht (fun c => kt ((nI_leI ha hb).mp c)) (fun c => kf (Nat.lt_of_not_le fun e => c ((nI_leI ha hb).mpr e)))
theorem nI_z {a : Nat} (ha : a < 2 ^ 31) : nI a = 0 ↔ a = 0 := by rw [← nI_0]; exact nI_eq ha (by decide)
theorem nI_l0 {a : Nat} (ha : a < 2 ^ 31) : nI a ≤ 0 ↔ a = 0 := by rw [← nI_0, nI_leI ha (by decide)]; omega
theorem nI_p0 {a : Nat} (ha : a < 2 ^ 31) : 0 < nI a ↔ 0 < a := by rw [← nI_0, nI_ltI (by decide) ha]
theorem okN_if_eq {a tgt : Nat} {off : Int} (hd : decode M.2.1 pc = .ok (.ifCond .eq off, 3)) (ht : (pc : Int) + off = (tgt : Int)) (ha : a < 2 ^ 31) (kt : a = 0 → Ok g M J tgt L st h uc us) (kf : 0 < a → Ok g M J (pc + 3) L st h uc us) : Ok g M J pc L (.int (nI a) :: st) h uc us := ok_if_eq hd ht (fun c => kt ((nI_z ha).mp c)) (fun c => kf (Nat.pos_of_ne_zero fun e => c ((nI_z ha).mpr e)))
theorem okN_if_ne {a tgt : Nat} {off : Int} (hd : decode M.2.1 pc = .ok (.ifCond .ne off, 3)) (ht : (pc : Int) + off = (tgt : Int)) (ha : a < 2 ^ 31) (kt : 0 < a → Ok g M J tgt L st h uc us) (kf : a = 0 → Ok g M J (pc + 3) L st h uc us) : Ok g M J pc L (.int (nI a) :: st) h uc us := ok_if_ne hd ht (fun c => kt (Nat.pos_of_ne_zero fun e => c ((nI_z ha).mpr e))) (fun c => kf ((nI_z ha).mp c))
theorem okN_if_lt {a tgt : Nat} {off : Int} (hd : decode M.2.1 pc = .ok (.ifCond .lt off, 3)) (ht : (pc : Int) + off = (tgt : Int)) (ha : a < 2 ^ 31) (kf : Ok g M J (pc + 3) L st h uc us) : Ok g M J pc L (.int (nI a) :: st) h uc us := ok_if_lt hd ht (fun c => absurd c (nI_pos ha)) (fun _ => kf)
theorem okN_if_ge {a tgt : Nat} {off : Int} (hd : decode M.2.1 pc = .ok (.ifCond .ge off, 3)) (ht : (pc : Int) + off = (tgt : Int)) (ha : a < 2 ^ 31) (kt : Ok g M J tgt L st h uc us) : Ok g M J pc L (.int (nI a) :: st) h uc us := ok_if_ge hd ht (fun _ => kt) (fun c => absurd (nI_pos' ha) c)
theorem okN_if_le {a tgt : Nat} {off : Int} (hd : decode M.2.1 pc = .ok (.ifCond .le off, 3)) (ht : (pc : Int) + off = (tgt : Int)) (ha : a < 2 ^ 31) (kt : a = 0 → Ok g M J tgt L st h uc us) (kf : 0 < a → Ok g M J (pc + 3) L st h uc us) : Ok g M J pc L (.int (nI a) :: st) h uc us := ok_if_le hd ht (fun c => kt ((nI_l0 ha).mp c)) (fun c => kf (Nat.pos_of_ne_zero fun e => c ((nI_l0 ha).mpr e)))
theorem okN_if_gt {a tgt : Nat} {off : Int} (hd : decode M.2.1 pc = .ok (.ifCond .gt off, 3)) (ht : (pc : Int) + off = (tgt : Int)) (ha : a < 2 ^ 31) (kt : 0 < a → Ok g M J tgt L st h uc us) (kf : a = 0 → Ok g M J (pc + 3) L st h uc us) : Ok g M J pc L (.int (nI a) :: st) h uc us := ok_if_gt hd ht (fun c => kt ((nI_p0 ha).mp c)) (fun c => kf (Nat.eq_zero_of_not_pos fun e => c ((nI_p0 ha).mpr e)))
/-! arrays by a number -/
theorem okN_iald {a n j : Nat} {F : Nat → Nat} (hd : decode M.2.1 pc = .ok (.iaload, 1)) (hh : hc h a = some (aI n F)) (hj : j < n) (hn : n < 2 ^ 31) (k : Ok g M J (pc + 1) L (.int (nI (F j)) :: st) h uc us) : Ok g M J pc L (.int (nI j) :: .ref a :: st) h uc us := by
  refine ok_iald hd hh (vp_in_nI hj hn) ?_
  rw [nI_clamp (Nat.lt_trans hj hn)]
  exact k
theorem okN_kald {a n j : Nat} {F : Nat → Int32} (hd : decode M.2.1 pc = .ok (.iaload, 1)) (hh : hc h a = some (aK n F)) (hj : j < n) (hn : n < 2 ^ 31) (k : Ok g M J (pc + 1) L (.int (F j) :: st) h uc us) : Ok g M J pc L (.int (nI j) :: .ref a :: st) h uc us := by
  refine ok_iald hd hh (vp_in_nI hj hn) ?_
  rw [nI_clamp (Nat.lt_trans hj hn)]
  exact k
theorem okN_zald {a n j : Nat} {F : Nat → Int32} (hd : decode M.2.1 pc = .ok (.baload, 1)) (hh : hc h a = some (aZ n F)) (hj : j < n) (hn : n < 2 ^ 31) (k : Ok g M J (pc + 1) L (.int (F j) :: st) h uc us) : Ok g M J pc L (.int (nI j) :: .ref a :: st) h uc us := by
  refine ok_zald hd hh (vp_in_nI hj hn) ?_
  rw [nI_clamp (Nat.lt_trans hj hn)]
  exact k
theorem okN_lald {a n j : Nat} {F : Nat → Int64} (hd : decode M.2.1 pc = .ok (.laload, 1)) (hh : hc h a = some (aJ n F)) (hj : j < n) (hn : n < 2 ^ 31) (k : Ok g M J (pc + 1) L (.long (F j) :: st) h uc us) : Ok g M J pc L (.int (nI j) :: .ref a :: st) h uc us := by
  refine ok_lald hd hh (vp_in_nI hj hn) ?_
  rw [nI_clamp (Nat.lt_trans hj hn)]
  exact k
theorem okN_aald {a n j t : Nat} {C0 : String} {F : Nat → Option Nat} (hd : decode M.2.1 pc = .ok (.aaload, 1)) (ht : m_ty5[t]? = some (.object C0)) (hh : hc h a = some (aA C0 n F)) (hj : j < n) (hn : n < 2 ^ 31) (k : Ok g M J (pc + 1) L (m_rv (F j) :: st) h uc us) : Ok g M J pc L (.int (nI j) :: .ref a :: st) h uc us := by
  refine ok_aald hd ht hh (vp_in_nI hj hn) ?_
  rw [nI_clamp (Nat.lt_trans hj hn)]
  exact k
theorem okN_iast {a n j x : Nat} {F : Nat → Nat} (hd : decode M.2.1 pc = .ok (.iastore, 1)) (hh : hc h a = some (aI n F)) (hj : j < n) (hn : n < 2 ^ 31) (k : ∀ h1, hx [a] h h1 → hc h1 a = some (aI n (up F j x)) → Ok g M J (pc + 1) L st h1 uc us) : Ok g M J pc L (.int (nI x) :: .int (nI j) :: .ref a :: st) h uc us := by
  refine ok_iast hd hh (vp_in_nI hj hn) (k _ (hx_hs h a _) ?_)
  rw [nI_clamp (Nat.lt_trans hj hn), aI_upd]
  exact hc_hs hh
theorem okN_kast {a n j : Nat} {x : Int32} {F : Nat → Int32} (hd : decode M.2.1 pc = .ok (.iastore, 1)) (hh : hc h a = some (aK n F)) (hj : j < n) (hn : n < 2 ^ 31) (k : ∀ h1, hx [a] h h1 → hc h1 a = some (aK n (up F j x)) → Ok g M J (pc + 1) L st h1 uc us) : Ok g M J pc L (.int x :: .int (nI j) :: .ref a :: st) h uc us := by
  refine ok_iast hd hh (vp_in_nI hj hn) (k _ (hx_hs h a _) ?_)
  rw [nI_clamp (Nat.lt_trans hj hn), aK_upd]
  exact hc_hs hh
theorem okN_zast {a n j : Nat} {x : Int32} {F : Nat → Int32} (hd : decode M.2.1 pc = .ok (.bastore, 1)) (hx0 : narrow .boolean (.int x) = .int x) (hh : hc h a = some (aZ n F)) (hj : j < n) (hn : n < 2 ^ 31) (k : ∀ h1, hx [a] h h1 → hc h1 a = some (aZ n (up F j x)) → Ok g M J (pc + 1) L st h1 uc us) : Ok g M J pc L (.int x :: .int (nI j) :: .ref a :: st) h uc us := by
  refine ok_zast hd hx0 hh (vp_in_nI hj hn) (k _ (hx_hs h a _) ?_)
  rw [nI_clamp (Nat.lt_trans hj hn), aK_upd]
  exact hc_hs hh
theorem okN_last {a n j : Nat} {x : Int64} {F : Nat → Int64} (hd : decode M.2.1 pc = .ok (.lastore, 1)) (hh : hc h a = some (aJ n F)) (hj : j < n) (hn : n < 2 ^ 31) (k : ∀ h1, hx [a] h h1 → hc h1 a = some (aJ n (up F j x)) → Ok g M J (pc + 1) L st h1 uc us) : Ok g M J pc L (.long x :: .int (nI j) :: .ref a :: st) h uc us := by
  refine ok_last hd hh (vp_in_nI hj hn) (k _ (hx_hs h a _) ?_)
  rw [nI_clamp (Nat.lt_trans hj hn), aJ_upd]
  exact hc_hs hh
theorem okN_aast {a n t v ci j : Nat} {r : vw_C} {vs : List Value} {F : Nat → Option Nat} (hd : decode M.2.1 pc = .ok (.aastore, 1)) (ht : m_ty5[t]? = some (.object r.1)) (hc0 : m_cl[ci]? = some r) (hh : hc h a = some (aA r.1 n F)) (hv : hc h v = some (.inr (ci, vs))) (hj : j < n) (hn : n < 2 ^ 31) (k : ∀ h1, hx [a] h h1 → hc h1 a = some (aA r.1 n (up F j (some v))) → Ok g M J (pc + 1) L st h1 uc us) : Ok g M J pc L (.ref v :: .int (nI j) :: .ref a :: st) h uc us := by
  refine ok_aast hd ht hc0 hh hv (vp_in_nI hj hn) (k _ (hx_hs h a _) ?_)
  rw [nI_clamp (Nat.lt_trans hj hn), aA_upd]
  exact hc_hs hh
theorem okR_put {a ci k idx : Nat} {fs fs' : List Value} {v : Value} {ty : FieldType} (hd : decode M.2.1 pc = .ok (.putfield idx, 3)) (hf : m_fl M.1.cls idx ci k ty false) (hh : hc h a = some (.inr (ci, fs))) (hk : k < fs.length) (hn : ∀ b, narrow ty (m_sv b v) = m_sv b v ∧ fits ty (m_sv b v) = true) (hfs : fs.set k v = fs') (kk : ∀ h1, hx [a] h h1 → hc h1 a = some (.inr (ci, fs')) → Ok g M J (pc + 3) L st h1 uc us) : Ok g M J pc L (v :: .ref a :: st) h uc us := by
  subst hfs
  exact ok_put hd hf hh hk hn (kk _ (hx_hs h a _) (hc_hs hh))
theorem okR_putF {a ci k idx : Nat} {fs fs' : List Value} {v : Value} {ty : FieldType} (hd : decode M.2.1 pc = .ok (.putfield idx, 3)) (hin : M.1.name = "<init>") (hf : m_fl M.1.cls idx ci k ty true) (hh : hc h a = some (.inr (ci, fs))) (hk : k < fs.length) (hn : ∀ b, narrow ty (m_sv b v) = m_sv b v ∧ fits ty (m_sv b v) = true) (hfs : fs.set k v = fs') (kk : ∀ h1, hx [a] h h1 → hc h1 a = some (.inr (ci, fs')) → Ok g M J (pc + 3) L st h1 uc us) : Ok g M J pc L (v :: .ref a :: st) h uc us := by
  subst hfs
  exact ok_putF hd hin hf hh hk hn (kk _ (hx_hs h a _) (hc_hs hh))
theorem okN_alen {a n : Nat} {F : Nat → Nat} (hd : decode M.2.1 pc = .ok (.arraylength, 1)) (hh : hc h a = some (aI n F)) (k : Ok g M J (pc + 1) L (.int (nI n) :: st) h uc us) : Ok g M J pc L (.ref a :: st) h uc us := ok_alen (t := 0) hd rfl hh k
theorem okJ_alen {a n : Nat} {F : Nat → Int64} (hd : decode M.2.1 pc = .ok (.arraylength, 1)) (hh : hc h a = some (aJ n F)) (k : Ok g M J (pc + 1) L (.int (nI n) :: st) h uc us) : Ok g M J pc L (.ref a :: st) h uc us := ok_alen (t := 1) hd rfl hh k
end BASE
