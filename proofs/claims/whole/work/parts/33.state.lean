/-! ===== the class's state ===== -/
def choL : List (List Nat) := [[1, 0, 0, 0, 0, 0, 0, 0, 0, 0, 0, 0, 0, 0, 0, 0, 0, 0, 0], [1, 1, 0, 0, 0, 0, 0, 0, 0, 0, 0, 0, 0, 0, 0, 0, 0, 0, 0], [1, 2, 1, 0, 0, 0, 0, 0, 0, 0, 0, 0, 0, 0, 0, 0, 0, 0, 0], [1, 3, 3, 1, 0, 0, 0, 0, 0, 0, 0, 0, 0, 0, 0, 0, 0, 0, 0], [1, 4, 6, 4, 1, 0, 0, 0, 0, 0, 0, 0, 0, 0, 0, 0, 0, 0, 0], [1, 5, 10, 10, 5, 1, 0, 0, 0, 0, 0, 0, 0, 0, 0, 0, 0, 0, 0], [1, 6, 15, 20, 15, 6, 1, 0, 0, 0, 0, 0, 0, 0, 0, 0, 0, 0, 0], [1, 7, 21, 35, 35, 21, 7, 1, 0, 0, 0, 0, 0, 0, 0, 0, 0, 0, 0], [1, 8, 28, 56, 70, 56, 28, 8, 1, 0, 0, 0, 0, 0, 0, 0, 0, 0, 0], [1, 9, 36, 84, 126, 126, 84, 36, 9, 1, 0, 0, 0, 0, 0, 0, 0, 0, 0], [1, 10, 45, 120, 210, 252, 210, 120, 45, 10, 1, 0, 0, 0, 0, 0, 0, 0, 0], [1, 11, 55, 165, 330, 462, 462, 330, 165, 55, 11, 1, 0, 0, 0, 0, 0, 0, 0], [1, 12, 66, 220, 495, 792, 924, 792, 495, 220, 66, 12, 1, 0, 0, 0, 0, 0, 0], [1, 13, 78, 286, 715, 1287, 1716, 1716, 1287, 715, 286, 78, 13, 1, 0, 0, 0, 0, 0], [1, 14, 91, 364, 1001, 2002, 3003, 3432, 3003, 2002, 1001, 364, 91, 14, 1, 0, 0, 0, 0], [1, 15, 105, 455, 1365, 3003, 5005, 6435, 6435, 5005, 3003, 1365, 455, 105, 15, 1, 0, 0, 0], [1, 16, 120, 560, 1820, 4368, 8008, 11440, 12870, 11440, 8008, 4368, 1820, 560, 120, 16, 1, 0, 0], [1, 17, 136, 680, 2380, 6188, 12376, 19448, 24310, 24310, 19448, 12376, 6188, 2380, 680, 136, 17, 1, 0], [1, 18, 153, 816, 3060, 8568, 18564, 31824, 43758, 48620, 43758, 31824, 18564, 8568, 3060, 816, 153, 18, 1]]
def choF (i : Nat) : Nat := (choL.getD (i / 19) []).getD (i % 19) 0
/-- there, heaps, THE RULE, the finding, how often, asked -/
abbrev ST : Type := (Nat → Bool) × (Nat → List Nat) × Nat × Nat × (Nat → Int32) × Int64
abbrev gho (ru fi : Nat) (wk : Int64) : mE := .inr (4, [.ref 1, .ref 2, .ref 3, .ref 4, .ref 6, .ref 17, .ref 18, .ref 20, .int (nI ru), .int (nI fi), .long wk])
def I1 (h : mH) : Prop := ∃ F, hc h 1 = some (aA RX3 12 F) ∧ ∀ p, p < 12 → F p = some (22 + 2 * p)
def I2 (h : mH) (T : Nat → Bool) : Prop := ∃ F, hc h 2 = some (aZ 12 F) ∧ ∀ p, p < 12 → F p = (if T p then nI 1 else nI 0)
def I3 (h : mH) (C : Nat → Int32) : Prop := ∃ F, hc h 3 = some (aK 6 F) ∧ ∀ f, f < 6 → F f = C f
def Sp (h : mH) (a b : Nat) : Prop := ∃ l, okl l ∧ Rw h a b l
def I5 (h : mH) : Prop := (∃ u v, ((u = 15 ∧ v = 16) ∨ (u = 16 ∧ v = 15)) ∧ hc h 6 = some (.inr (2, [.ref 7, .ref 8, .ref 9, .ref 10, .ref 11, .ref 13, .ref u, .ref v]))) ∧ hc h 7 = some (aI 361 choF) ∧ (∃ F, hc h 8 = some (aI 20 F)) ∧ (∃ F, hc h 9 = some (aI 20 F)) ∧ (∃ F, hc h 10 = some (aI 20 F)) ∧ Sp h 11 12 ∧ Sp h 13 14 ∧ (∃ F, hc h 15 = some (aJ 385 F)) ∧ (∃ F, hc h 16 = some (aJ 385 F))
def I6 (h : mH) : Prop := ∃ F, hc h 17 = some (aA RX0 76 F) ∧ ∀ s, s < 76 → F s = none ∨ ∃ q, F s = some q ∧ 64 ≤ q ∧ Chd h q s
def I8 (h : mH) (T : Nat → Bool) (P : Nat → List Nat) : Prop := ∀ p, p < 12 → ∃ l, okl l ∧ Rw h (22 + 2 * p) (23 + 2 * p) l ∧ (T p = true → l = P p)
def IX (h : mH) (S : ST) : Prop := hc h 0 = some (gho S.2.2.1 S.2.2.2.1 S.2.2.2.2.2) ∧ S.2.2.1 < 4 ∧ I1 h ∧ I2 h S.1 ∧ I3 h S.2.2.2.2.1 ∧ Ls h 4 5 ∧ I5 h ∧ I6 h ∧ Sp h 18 19 ∧ Sp h 20 21 ∧ I8 h S.1 S.2.1
def fX (h h' : mH) : Prop := h.1 ≤ h'.1 ∧ ∀ q, 46 ≤ q → q < h.1 → hc h' q = hc h q
theorem fX.rf {h : mH} : fX h h := ⟨Nat.le_refl _, fun _ _ _ => rfl⟩
theorem fX.tr {h h1 h2 : mH} (a : fX h h1) (b : fX h1 h2) : fX h h2 := ⟨Nat.le_trans a.1 b.1, fun q l1 l2 => (b.2 q l1 (Nat.lt_of_lt_of_le l2 a.1)).trans (a.2 q l1 l2)⟩
theorem hw.f {A : List Nat} {h h' : mH} (x : hw A h h') (hA : ∀ q ∈ A, q < 46) : fX h h' := ⟨x.1, fun q l1 l2 => x.2 q l2 (fun z => by have := hA q z; omega)⟩
section STW
variable {h h' : mH} {A : List Nat}
theorem I1.w (r : I1 h) (x : hw A h h') (n : 1 ∉ A) : I1 h' := by obtain ⟨F, e, f⟩ := r; exact ⟨F, x.at n e, f⟩
theorem I2.w {T : Nat → Bool} (r : I2 h T) (x : hw A h h') (n : 2 ∉ A) : I2 h' T := by obtain ⟨F, e, f⟩ := r; exact ⟨F, x.at n e, f⟩
theorem I3.w {C : Nat → Int32} (r : I3 h C) (x : hw A h h') (n : 3 ∉ A) : I3 h' C := by obtain ⟨F, e, f⟩ := r; exact ⟨F, x.at n e, f⟩
theorem Sp.w {a b : Nat} (r : Sp h a b) (x : hw A h h') (n1 : a ∉ A) (n2 : b ∉ A) : Sp h' a b := by obtain ⟨l, o, e⟩ := r; exact ⟨l, o, e.w x n1 n2⟩
theorem I5.w (r : I5 h) (x : hw A h h') (n : ∀ q, 6 ≤ q → q ≤ 16 → q ∉ A) : I5 h' := by
  obtain ⟨⟨u, v, huv, e6⟩, e7, ⟨F8, e8⟩, ⟨F9, e9⟩, ⟨F10, e10⟩, s1, s2, ⟨F15, e15⟩, ⟨F16, e16⟩⟩ := r
  exact ⟨⟨u, v, huv, x.at (n 6 (by omega) (by omega)) e6⟩, x.at (n 7 (by omega) (by omega)) e7, ⟨F8, x.at (n 8 (by omega) (by omega)) e8⟩, ⟨F9, x.at (n 9 (by omega) (by omega)) e9⟩, ⟨F10, x.at (n 10 (by omega) (by omega)) e10⟩, s1.w x (n 11 (by omega) (by omega)) (n 12 (by omega) (by omega)), s2.w x (n 13 (by omega) (by omega)) (n 14 (by omega) (by omega)), ⟨F15, x.at (n 15 (by omega) (by omega)) e15⟩, ⟨F16, x.at (n 16 (by omega) (by omega)) e16⟩⟩
theorem I6.w (r : I6 h) (x : hw A h h') (n : 17 ∉ A) (m : ∀ q ∈ A, q < 64) : I6 h' := by
  obtain ⟨F, e, f⟩ := r
  refine ⟨F, x.at n e, fun s hs => ?_⟩
  rcases f s hs with z | ⟨q, q1, q2, q3⟩
  · exact Or.inl z
  · exact Or.inr ⟨q, q1, q2, q3.w x (fun i hi z => by have := m _ z; omega)⟩
theorem I8.w {T : Nat → Bool} {P : Nat → List Nat} (r : I8 h T P) (x : hw A h h') (n : ∀ q, 22 ≤ q → q < 46 → q ∉ A) : I8 h' T P := by
  intro p hp
  obtain ⟨l, o, e, f⟩ := r p hp
  exact ⟨l, o, e.w x (n _ (by omega) (by omega)) (n _ (by omega) (by omega)), f⟩
end STW
/-- a row p that is there -/
theorem I8.row {h : mH} {T : Nat → Bool} {P : Nat → List Nat} (r : I8 h T P) {p : Nat} (hp : p < 12) (ht : T p = true) : okl (P p) ∧ Rw h (22 + 2 * p) (23 + 2 * p) (P p) := by
  obtain ⟨l, o, e, f⟩ := r p hp
  have := f ht
  subst this
  exact ⟨o, e⟩
def s_fd (S : ST) (f : Nat) : ST := (S.1, S.2.1, S.2.2.1, f, up S.2.2.2.2.1 f (S.2.2.2.2.1 f + nI 1), S.2.2.2.2.2)
section STATE
variable {g : mG} {h : mH} {Q : Option Value → mH → Prop} {S : ST}
theorem c_X4_rowAt {p : Int32} (I : IX h S) (k1 : ∀ j, pl 12 p = some j → j < 12 → S.1 j = true → Q (some (.ref (22 + 2 * j))) h) (k0 : (∀ j, pl 12 p = some j → S.1 j = false) → Q (some .null) h) : Ok g MX4_rowAt (m_J g MX4_rowAt Q) 0 [some (.ref 0), some (.int p)] [] h 0 0 := by
  obtain ⟨e0, -, ⟨F1, e1, f1⟩, ⟨F2, e2, f2⟩, -⟩ := I
  refine ok_iload_n dX4_rowAt_0 rfl ?_
  refine call_X4_isPlace dX4_rowAt_1 lk_X4_51 ⟨Nat.le_of_ble_eq_true rfl, Nat.le_of_ble_eq_true rfl, Nat.le_of_ble_eq_true rfl⟩ (Nat.le_of_ble_eq_true rfl) ?_
  refine c_X4_isPlace (fun j q1 q2 q3 => ?_) (fun q => ?_)
  · subst q3
    refine okN_if_eq (tgt := 25) dX4_rowAt_4 (by decide) (by omega) (fun c1 => ?_) (fun c1 => ?_)
    · exact absurd c1 (by decide)
    · refine ok_aload_n dX4_rowAt_7 rfl rfl ?_
      refine ok_get dX4_rowAt_8 fl_X4_15 (by assumption) (by rfl) ?_
      refine ok_iload_n dX4_rowAt_11 rfl ?_
      refine okN_zald dX4_rowAt_12 (by assumption) (by omega) (by decide) ?_
      rw [f2 j q2]
      cases ht : S.1 j with
      | true =>
        rw [if_pos rfl]
        refine okN_if_eq (tgt := 25) dX4_rowAt_13 (by decide) (by omega) (fun c2 => ?_) (fun c2 => ?_)
        · exact absurd c2 (by decide)
        · refine ok_aload_n dX4_rowAt_16 rfl rfl ?_
          refine ok_get dX4_rowAt_17 fl_X4_11 (by assumption) (by rfl) ?_
          refine ok_iload_n dX4_rowAt_20 rfl ?_
          first | refine okN_aald (t := 3) dX4_rowAt_21 rfl (by assumption) (by omega) (by decide) ?_ | refine okN_aald (t := 4) dX4_rowAt_21 rfl (by assumption) (by omega) (by decide) ?_
          rw [f1 j q2]
          refine ok_goto (tgt := 26) dX4_rowAt_22 (by decide) ?_
          refine ok_aret dX4_rowAt_26 rfl rfl ⟨Nat.le_of_ble_eq_true rfl, Nat.le_of_ble_eq_true rfl⟩ ?_
          exact k1 j q1 q2 ht
      | false =>
        rw [if_neg (by decide)]
        refine okN_if_eq (tgt := 25) dX4_rowAt_13 (by decide) (by omega) (fun c2 => ?_) (fun c2 => ?_)
        · refine ok_null dX4_rowAt_25 ?_
          refine ok_aret dX4_rowAt_26 rfl rfl ⟨Nat.le_of_ble_eq_true rfl, Nat.le_of_ble_eq_true rfl⟩ ?_
          refine k0 (fun j' e => ?_)
          rw [q1] at e
          cases e
          exact ht
        · exact absurd c2 (by decide)
  · refine okN_if_eq (tgt := 25) dX4_rowAt_4 (by decide) (by omega) (fun c1 => ?_) (fun c1 => ?_)
    · refine ok_null dX4_rowAt_25 ?_
      refine ok_aret dX4_rowAt_26 rfl rfl ⟨Nat.le_of_ble_eq_true rfl, Nat.le_of_ble_eq_true rfl⟩ ?_
      exact k0 (fun j e => by rw [q] at e; cases e)
    · exact absurd c1 (by decide)
theorem c_X4_found {f : Nat} (I : IX h S) (hf : f < 6) (k : ∀ h', hx [0, 3] h h' → IX h' (s_fd S f) → Q (some (.int (-3))) h') : Ok g MX4_found (m_J g MX4_found Q) 0 [some (.ref 0), some (.int (nI f))] [] h 0 0 := by
  obtain ⟨e0, hr, i1, i2, ⟨F3, e3, f3⟩, i4, i5, i6, i7, i7', i8⟩ := I
  refine ok_aload_n dX4_found_0 rfl rfl ?_
  refine ok_iload_n dX4_found_1 rfl ?_
  refine okR_put dX4_found_2 fl_X4_185 (by assumption) (Nat.le_of_ble_eq_true rfl) (fun _ => ⟨rfl, rfl⟩) set_11_9 (fun h1 hx1 he1 => ?_)
  have e31 := hx1.at (by decide) e3
  refine ok_aload_n dX4_found_5 rfl rfl ?_
  refine ok_get dX4_found_6 fl_X4_19 (by assumption) (by rfl) ?_
  refine ok_iload_n dX4_found_9 rfl ?_
  refine ok_dup2 dX4_found_10 rfl rfl ?_
  first | refine okN_iald dX4_found_11 (by assumption) (by omega) (by decide) ?_ | refine okF_iald dX4_found_11 (by assumption) (by omega) (by omega) ?_ | refine okN_kald dX4_found_11 (by assumption) (by omega) (by decide) ?_
  refine ok_iconst (v := nI 1) dX4_found_12 (by decide) ?_
  first | refine okN_iadd dX4_found_13 ?_ | refine ok_iadd dX4_found_13 ?_
  first | refine okN_iast dX4_found_14 (by assumption) (by omega) (by decide) (fun h2 hx2 he2 => ?_) | refine okC_iast dX4_found_14 (by assumption) (by omega) (by omega) (by omega) (fun h2 hx2 he2 => ?_) | refine okF_iast dX4_found_14 (by assumption) (by omega) (by omega) (fun h2 hx2 he2 => ?_) | refine okN_kast dX4_found_14 (by assumption) (by omega) (by decide) (fun h2 hx2 he2 => ?_)
  refine ok_bipush (v := -3) dX4_found_15 (by decide) ?_
  refine ok_iret dX4_found_17 rfl rfl ⟨Nat.le_of_ble_eq_true rfl, Nat.le_of_ble_eq_true rfl⟩ ?_
  have x : hx [0, 3] h h2 := hx1.tr hx2 (by decide) (by decide)
  refine k h2 x ⟨hx2.at (by decide) he1, hr, i1.w x.w (by decide), i2.w x.w (by decide), ⟨_, he2, fun q hq => ?_⟩, i4.w x.w (by decide) (by decide), i5.w x.w (fun q l1 l2 => by simp <;> omega), i6.w x.w (by decide) (by simp), i7.w x.w (by decide) (by decide), i7'.w x.w (by decide) (by decide), i8.w x.w (fun q l1 l2 => by simp <;> omega)⟩
  show up F3 f (F3 f + nI 1) q = up S.2.2.2.2.1 f (S.2.2.2.2.1 f + nI 1) q
  rw [f3 f hf]
  by_cases c : q = f
  · rw [c, up_eq, up_eq]
  · rw [up_ne c, up_ne c, f3 q hq]
end STATE
