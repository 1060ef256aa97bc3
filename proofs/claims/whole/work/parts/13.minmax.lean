theorem nI_if {a b : Nat} (ha : a < 2 ^ 31) (hb : b < 2 ^ 31) (x y : Nat) : (if nI a < nI b then nI x else nI y) = nI (if a < b then x else y) := by
  by_cases c : a < b
  · rw [if_pos c, if_pos ((nI_ltI ha hb).mpr c)]
  · rw [if_neg c, if_neg (fun q => c ((nI_ltI ha hb).mp q))]
section MINMAX
variable {g : mG} {M : mM} {J : mJ} {pc : Nat} {L L' : List (Option Value)} {st : List Value} {h : mH} {uc us : Nat}
theorem okN_max {idx a b : Nat} (hd : decode M.2.1 pc = .ok (.invokestatic idx, 3)) (hl : Cond.methodLink M.1.cls idx Lib.Math.max.name ∈ m_tb ∧ Cond.static Lib.Math.max.name ∈ m_tb ∧ Cond.initialized "java/lang/Math" ∈ m_tb ∧ Cond.code Lib.Math.max.name Lib.Math.max.code 2 (some .int) ∈ m_tb) (hrk : 1 ≤ M.2.2.2.2.1) (hu : uc ≤ M.2.2.2.2.2.1 ∧ us ≤ M.2.2.2.2.2.2) (hw : (st.map fun v => v.category).sum ≤ 8) (ha : a < 2 ^ 31) (hb : b < 2 ^ 31) (k : Ok g M J (pc + 3) L (.int (nI (if a < b then b else a)) :: st) h uc us) : Ok g M J pc L (.int (nI b) :: .int (nI a) :: st) h uc us := by
  refine ok_max hd hl hrk hu hw ?_
  rw [nI_if ha hb]
  exact k
theorem okN_min {idx a b : Nat} (hd : decode M.2.1 pc = .ok (.invokestatic idx, 3)) (hl : Cond.methodLink M.1.cls idx Lib.Math.min.name ∈ m_tb ∧ Cond.static Lib.Math.min.name ∈ m_tb ∧ Cond.initialized "java/lang/Math" ∈ m_tb ∧ Cond.code Lib.Math.min.name Lib.Math.min.code 2 (some .int) ∈ m_tb) (hrk : 1 ≤ M.2.2.2.2.1) (hu : uc ≤ M.2.2.2.2.2.1 ∧ us ≤ M.2.2.2.2.2.2) (hw : (st.map fun v => v.category).sum ≤ 8) (ha : a < 2 ^ 31) (hb : b < 2 ^ 31) (k : Ok g M J (pc + 3) L (.int (nI (if b < a then b else a)) :: st) h uc us) : Ok g M J pc L (.int (nI b) :: .int (nI a) :: st) h uc us := by
  refine ok_min hd hl hrk hu hw ?_
  rw [nI_if hb ha]
  exact k
end MINMAX
