/-! ===== arrays that hold a function's values; cells that are made ===== -/
/-- the first N places of the array a (of n) hold f -/
def Af (h : mH) (a n N : Nat) (f : Nat → Nat) : Prop := N ≤ n ∧ ∃ F, hc h a = some (aI n F) ∧ ∀ j, j < N → F j = f j
theorem Af.at {h h' : mH} {A : List Nat} {a n N : Nat} {f : Nat → Nat} (r : Af h a n N f) (x : hx A h h') (n1 : a ∉ A) : Af h' a n N f := by
  obtain ⟨r0, F, r1, r2⟩ := r
  exact ⟨r0, F, x.at n1 r1, r2⟩
theorem Af.cg {h : mH} {a n N : Nat} {f f' : Nat → Nat} (r : Af h a n N f) (e : ∀ j, j < N → f j = f' j) : Af h a n N f' := by
  obtain ⟨r0, F, r1, r2⟩ := r
  exact ⟨r0, F, r1, fun j hj => (r2 j hj).trans (e j hj)⟩
theorem Af.cell {h : mH} {a n N : Nat} {f : Nat → Nat} (r : Af h a n N f) : ∃ F, hc h a = some (aI n F) := by
  obtain ⟨r0, F, r1, r2⟩ := r
  exact ⟨F, r1⟩
theorem gt_st_fun (X j : Nat) {v : Nat} (hv : v < 512) : gt (st X j v) = up (gt X) j v := by
  funext i
  by_cases c : i = j
  · subst c; rw [up_eq, gt_st_eq _ _ hv]
  · rw [up_ne c, gt_st_ne _ _ hv c]
/-- a cell more -/
def hn (h h' : mH) : Prop := h'.1 = h.1 + 1 ∧ ∀ q, q ≠ h.1 → hc h' q = hc h q
theorem hn.at {h h' : mH} {q : Nat} {x : mE} (r : hn h h') (e : hc h q = some x) : hc h' q = some x := (r.2 q (Nat.ne_of_lt (hc_lt e).1)).trans e
theorem hn_hp (h : mH) (x : mE) : hn h (hp h x) := ⟨rfl, fun q n => hc_hp_ne n⟩
theorem Af.hn {h h' : mH} {a n N : Nat} {f : Nat → Nat} (r : Af h a n N f) (x : hn h h') : Af h' a n N f := by
  obtain ⟨r0, F, r1, r2⟩ := r
  exact ⟨r0, F, x.at r1, r2⟩
/-- the old cells stay but A -/
def hw (A : List Nat) (h h' : mH) : Prop := h.1 ≤ h'.1 ∧ ∀ q, q < h.1 → q ∉ A → hc h' q = hc h q
theorem hw.rf {A : List Nat} {h : mH} : hw A h h := ⟨Nat.le_refl _, fun _ _ _ => rfl⟩
theorem hx.w {A : List Nat} {h h' : mH} (r : hx A h h') : hw A h h' := ⟨by rw [r.1]; exact Nat.le_refl _, fun q _ n => r.2 q n⟩
theorem hn.w {A : List Nat} {h h' : mH} (r : hn h h') : hw A h h' := ⟨by rw [r.1]; omega, fun q l _ => r.2 q (by omega)⟩
theorem hw.tr {A B : List Nat} {h h1 h2 : mH} (a : hw A h h1) (b : hw B h1 h2) (hB : ∀ q ∈ B, q < h.1 → q ∈ A) : hw A h h2 :=
  ⟨Nat.le_trans a.1 b.1, fun q l n => (b.2 q (Nat.lt_of_lt_of_le l a.1) (fun z => n (hB q z l))).trans (a.2 q l n)⟩
theorem hw.at {A : List Nat} {h h1 : mH} {q : Nat} {x : mE} (a : hw A h h1) (n : q ∉ A) (e : hc h q = some x) : hc h1 q = some x := (a.2 q (hc_lt e).1 n).trans e
theorem hw.mono {A C : List Nat} {h h1 : mH} (a : hw A h h1) (hA : ∀ q ∈ A, q ∈ C) : hw C h h1 := ⟨a.1, fun q l n => a.2 q l (fun z => n (hA q z))⟩
theorem Af.w {h h' : mH} {A : List Nat} {a n N : Nat} {f : Nat → Nat} (r : Af h a n N f) (x : hw A h h') (n1 : a ∉ A) : Af h' a n N f := by
  obtain ⟨r0, F, r1, r2⟩ := r
  exact ⟨r0, F, x.at n1 r1, r2⟩
theorem Rw.w {h h' : mH} {A : List Nat} {a b : Nat} {l : List Nat} (r : Rw h a b l) (x : hw A h h') (n1 : a ∉ A) (n2 : b ∉ A) : Rw h' a b l := by
  obtain ⟨r1, F, r2, r3⟩ := r
  exact ⟨x.at n1 r1, F, x.at n2 r2, r3⟩
theorem Ls.w {h h' : mH} {A : List Nat} {a b : Nat} (r : Ls h a b) (x : hw A h h') (n1 : a ∉ A) (n2 : b ∉ A) : Ls h' a b := ⟨x.at n1 r.1, x.at n2 r.2⟩
section ALLOC
variable {g : mG} {M : mM} {J : mJ} {pc : Nat} {L L' : List (Option Value)} {sk : List Value} {h : mH} {uc us : Nat}
theorem okF_iald {a n N j : Nat} {f : Nat → Nat} (hd : decode M.2.1 pc = .ok (.iaload, 1)) (hh : Af h a n N f) (hj : j < N) (hn : n < 2 ^ 31) (k : Ok g M J (pc + 1) L (.int (nI (f j)) :: sk) h uc us) : Ok g M J pc L (.int (nI j) :: .ref a :: sk) h uc us := by
  obtain ⟨r0, F, r1, r2⟩ := hh
  refine okN_iald hd r1 (by omega) hn ?_
  rw [r2 j hj]
  exact k
theorem okF_iast {a n N j x : Nat} {f : Nat → Nat} (hd : decode M.2.1 pc = .ok (.iastore, 1)) (hh : Af h a n N f) (hj : j < N) (hn : n < 2 ^ 31) (k : ∀ h1, hx [a] h h1 → Af h1 a n N (up f j x) → Ok g M J (pc + 1) L sk h1 uc us) : Ok g M J pc L (.int (nI x) :: .int (nI j) :: .ref a :: sk) h uc us := by
  obtain ⟨r0, F, r1, r2⟩ := hh
  refine okN_iast hd r1 (by omega) hn (fun h1 x1 e1 => k h1 x1 ⟨r0, _, e1, fun i hi => ?_⟩)
  by_cases c : i = j
  · subst c; rw [up_eq, up_eq]
  · rw [up_ne c, up_ne c]; exact r2 i hi
theorem okC_iast {a n N j x X : Nat} (hd : decode M.2.1 pc = .ok (.iastore, 1)) (hh : Af h a n N (gt X)) (hj : j < N) (hn : n < 2 ^ 31) (hv : x < 512) (k : ∀ h1, hx [a] h h1 → Af h1 a n N (gt (st X j x)) → Ok g M J (pc + 1) L sk h1 uc us) : Ok g M J pc L (.int (nI x) :: .int (nI j) :: .ref a :: sk) h uc us := by
  rw [gt_st_fun X j hv] at k
  exact okF_iast hd hh hj hn k
theorem okR_newI {N : Nat} (hd : decode M.2.1 pc = .ok (.newarray .int, 2)) (hN : N < 2 ^ 20) (hu : uc + 1 ≤ M.2.2.2.2.2.1 ∧ us + N ≤ M.2.2.2.2.2.2) (k : ∀ h1, hn h h1 → hc h1 h.1 = some (aI N (fun _ => 0)) → Ok g M J (pc + 2) L (.ref h.1 :: sk) h1 (uc + 1) (us + N)) : Ok g M J pc L (.int (nI N) :: sk) h uc us :=
  ok_newI hd ac_int (nI_pos (by omega)) (nI_clamp (by omega)) (by omega) hu (k _ (hn_hp h _) hc_hp)
theorem okR_newJ {N : Nat} (hd : decode M.2.1 pc = .ok (.newarray .long, 2)) (hN : N < 2 ^ 20) (hu : uc + 1 ≤ M.2.2.2.2.2.1 ∧ us + N ≤ M.2.2.2.2.2.2) (k : ∀ h1, hn h h1 → hc h1 h.1 = some (aJ N (fun _ => 0)) → Ok g M J (pc + 2) L (.ref h.1 :: sk) h1 (uc + 1) (us + N)) : Ok g M J pc L (.int (nI N) :: sk) h uc us :=
  ok_newJ hd ac_long (nI_pos (by omega)) (nI_clamp (by omega)) (by omega) hu (k _ (hn_hp h _) hc_hp)
theorem okR_newZ {N : Nat} (hd : decode M.2.1 pc = .ok (.newarray .boolean, 2)) (hN : N < 2 ^ 20) (hu : uc + 1 ≤ M.2.2.2.2.2.1 ∧ us + N ≤ M.2.2.2.2.2.2) (k : ∀ h1, hn h h1 → hc h1 h.1 = some (aZ N (fun _ => 0)) → Ok g M J (pc + 2) L (.ref h.1 :: sk) h1 (uc + 1) (us + N)) : Ok g M J pc L (.int (nI N) :: sk) h uc us :=
  ok_newZ hd ac_boolean (nI_pos (by omega)) (nI_clamp (by omega)) (by omega) hu (k _ (hn_hp h _) hc_hp)
theorem okR_newA {N t idx : Nat} {C0 : String} (hd : decode M.2.1 pc = .ok (.anewarray idx, 3)) (ht : m_ty5[t]? = some (.object C0)) (hl : Cond.classLink M.1.cls idx C0 ∈ m_tb) (ho : ∀ U, m_X U → va_AO C0 U) (hN : N < 2 ^ 20) (hu : uc + 1 ≤ M.2.2.2.2.2.1 ∧ us + N ≤ M.2.2.2.2.2.2) (k : ∀ h1, hn h h1 → hc h1 h.1 = some (aA C0 N (fun _ => none)) → Ok g M J (pc + 3) L (.ref h.1 :: sk) h1 (uc + 1) (us + N)) : Ok g M J pc L (.int (nI N) :: sk) h uc us :=
  ok_newA hd ht hl ho (nI_pos (by omega)) (nI_clamp (by omega)) (by omega) hu (k _ (hn_hp h _) hc_hp)
theorem okR_cloneI {a n idx : Nat} {F : Nat → Nat} (hd : decode M.2.1 pc = .ok (.invokevirtual idx, 3))
    (hl : Cond.methodLink M.1.cls idx ⟨"[I", "clone", "()Ljava/lang/Object;"⟩ ∈ m_tb ∧ Cond.sameMethod "[I" "java/lang/Object" "clone" "()Ljava/lang/Object;" ∈ m_tb ∧ Cond.native ⟨"java/lang/Object", "clone", "()Ljava/lang/Object;"⟩ ∈ m_tb ∧ Cond.instanceMethod ⟨"java/lang/Object", "clone", "()Ljava/lang/Object;"⟩ ∈ m_tb ∧ Cond.selects "[I" ⟨"[I", "clone", "()Ljava/lang/Object;"⟩ ⟨"java/lang/Object", "clone", "()Ljava/lang/Object;"⟩ ∈ m_tb)
    (hh : hc h a = some (aI n F)) (hrk : 1 ≤ M.2.2.2.2.1) (hw0 : (sk.map fun v => v.category).sum ≤ 8) (hu : uc + 1 ≤ M.2.2.2.2.2.1 ∧ us + n ≤ M.2.2.2.2.2.2) (k : ∀ h1, hn h h1 → hc h1 h.1 = some (aI n F) → Ok g M J (pc + 3) L (.ref h.1 :: sk) h1 (uc + 1) (us + n)) : Ok g M J pc L (.ref a :: sk) h uc us :=
  ok_cloneI hd hl hh hrk hw0 hu (k _ (hn_hp h _) hc_hp)
theorem okR_new {ci idx : Nat} {r : vw_C} {fs : List Value} (ty0 : Nat → FieldType) (hd : decode M.2.1 pc = .ok (.new idx, 3)) (hr : m_cl[ci]? = some r) (hin : m_in (u_ws r.1 r.2.1 r.2.2)) (hty : ∀ k, k < r.2.2 → parseFieldDescriptor (r.2.1 k).2.2.1 = some (ty0 k)) (hl : Cond.classLink M.1.cls idx r.1 ∈ m_tb ∧ Cond.instantiable r.1 r.2.2 ∈ m_tb ∧ Cond.initialized r.1 ∈ m_tb) (hfs : ∀ j, j < r.2.2 → defaultValue (ty0 j) = vp_V fs j) (hsv : ∀ b, fs.map (m_sv b) = fs) (hu : uc + 1 ≤ M.2.2.2.2.2.1 ∧ us + r.2.2 ≤ M.2.2.2.2.2.2)
    (k : ∀ h1, hn h h1 → hc h1 h.1 = some (.inr (ci, fs)) → Ok g M J (pc + 3) L (.ref h.1 :: sk) h1 (uc + 1) (us + r.2.2)) : Ok g M J pc L sk h uc us :=
  ok_new ty0 hd hr hin hty hl hfs hsv hu (k _ (hn_hp h _) hc_hp)
end ALLOC
