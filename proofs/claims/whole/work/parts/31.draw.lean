/-- the chart of s, drawn, at q .. q + 5 -/
def Chd (h : mH) (q s : Nat) : Prop := hc h q = some (chc (NN s) (q + 1) (q + 2) (q + 3) (q + 4) (q + 5) (CH s).2.1 (CH s).2.2.1 (CH s).2.2.2.1 (CH s).2.2.2.2.1 (CH s).2.2.2.2.2) ∧ Af h (q + 1) (NN s) (NN s) (nx s) ∧ Af h (q + 2) (NN s) (NN s) (c_co s) ∧ Af h (q + 3) (NN s) (NN s) (c_ta s) ∧ Af h (q + 4) (NN s) (NN s) (c_be s) ∧ Af h (q + 5) (NN s) (NN s) (c_le s)
theorem Chd.w {h h' : mH} {A : List Nat} {q s : Nat} (r : Chd h q s) (x : hw A h h') (n : ∀ i, i < 6 → q + i ∉ A) : Chd h' q s :=
  ⟨x.at (n 0 (by omega)) r.1, r.2.1.w x (n 1 (by omega)), r.2.2.1.w x (n 2 (by omega)), r.2.2.2.1.w x (n 3 (by omega)), r.2.2.2.2.1.w x (n 4 (by omega)), r.2.2.2.2.2.w x (n 5 (by omega))⟩
theorem mx_le {x y b : Nat} (h1 : x ≤ b) (h2 : y ≤ b) : mx x y ≤ b := by
  unfold mx
  split <;> omega
section DRAW
variable {g : mG} {h : mH} {Q : Option Value → mH → Prop} {a rc ro gT lo gB N : Nat}
theorem l_X0_drawT {s w o p P : Nat} (hs : s < 76) (eN : N = NN s) (hP : P ≤ N) (hao : a ≠ o) (ho : ∀ i, 1 ≤ i → i ≤ 5 → a + i ≠ o) (hO : ∀ j, j < P → gt p j < N) {T' : tlT}
    (k : ∀ h', hx [a, a + 3, a + 4, a + 5] h h' → hc h' a = some (chc N (a + 1) (a + 2) (a + 3) (a + 4) (a + 5) rc ro T'.2.2.2 lo gB) → Af h' (a + 1) N N (nx s) → Af h' (a + 3) N N (gt T'.1) → Af h' (a + 4) N N (gt T'.2.1) → Af h' (a + 5) N N (gt T'.2.2.1) → Q none h') :
    ∀ (j : Nat) (T : tlT) (h1 : mH), tlS s p j T = T' → j ≤ P → (∀ i, gt T.1 i ≤ P - j) → T.2.2.2 ≤ P - j → hx [a, a + 3, a + 4, a + 5] h h1 → hc h1 a = some (chc N (a + 1) (a + 2) (a + 3) (a + 4) (a + 5) rc ro T.2.2.2 lo gB) → Af h1 (a + 1) N N (nx s) → Af h1 o N N (gt p) → Af h1 (a + 3) N N (gt T.1) → Af h1 (a + 4) N N (gt T.2.1) → Af h1 (a + 5) N N (gt T.2.2.1) →
    Ok g MX0_draw (m_J g MX0_draw Q) 86 [some (.ref a), some (.ref w), some (.ref o), some (.int (nI P)), some (.int (nI j - nI 1))] [] h1 2 770 := by
  have hN := NN_lt hs
  rw [← eN] at hN
  intro j
  induction j with
  | zero =>
    intro T h1 hT hj hb hg x1 ea r1 rO r3 r4 r5
    unfold tlS at hT
    subst hT
    refine ok_iload dX0_draw_86 rfl ?_
    refine ok_if_lt (tgt := 105) dX0_draw_88 (by decide) (fun c1 => ?_) (fun c1 => ?_)
    · refine ok_vret dX0_draw_105 rfl ⟨Nat.le_of_ble_eq_true rfl, Nat.le_of_ble_eq_true rfl⟩ ?_
      exact k h1 x1 ea r1 r3 r4 r5
    · exact absurd (by decide) c1
  | succ j ih =>
    intro T h1 hT hj hb hg x1 ea r1 rO r3 r4 r5
    unfold tlS at hT
    have go := hO j (by omega)
    have e1 : nI (j + 1) - nI 1 = nI j := by rw [pk_sub (by omega)]; rfl
    rw [e1]
    have b1 := hb (nx s (gt p j))
    have o1 := ho 1 (by omega) (by omega)
    have o3 := ho 3 (by omega) (by omega)
    have o4 := ho 4 (by omega) (by omega)
    have o5 := ho 5 (by omega) (by omega)
    refine ok_iload dX0_draw_86 rfl ?_
    refine okN_if_lt (tgt := 105) dX0_draw_88 (by decide) (by omega) ?_
    refine ok_aload_n dX0_draw_91 rfl rfl ?_
    refine ok_aload_n dX0_draw_92 rfl rfl ?_
    refine ok_iload dX0_draw_93 rfl ?_
    first | refine okN_iald dX0_draw_95 (by assumption) (by omega) (by decide) ?_ | refine okF_iald dX0_draw_95 (by assumption) (by omega) (by omega) ?_ | refine okN_kald dX0_draw_95 (by assumption) (by omega) (by decide) ?_
    refine call_X0_drawTail dX0_draw_96 lk_X0_57 ⟨Nat.le_of_ble_eq_true rfl, Nat.le_of_ble_eq_true rfl, Nat.le_of_ble_eq_true rfl⟩ (by assumption) (Nat.le_of_ble_eq_true rfl) ?_
    refine c_X0_drawTail hs eN go (by omega) (by omega) (by omega) (by omega) (by omega) (by omega) (by omega) (by omega) (by omega) (by omega) (by omega) (by omega) ea r1 r3 r4 r5 (fun h2 x2 ea2 r12 r32 r42 r52 => ?_)
    refine ok_iinc (v := nI j - nI 1) dX0_draw_99 rfl (by rw [Int32.sub_eq_add_neg]; rfl) (st_5_4 rfl) (Nat.le_of_ble_eq_true rfl) ?_
    refine ok_goto (tgt := 86) dX0_draw_102 (by decide) ?_
    refine ih _ h2 hT (by omega) (fun i => ?_) (mx_le (by omega) (by omega)) (x1.tr' x2) ea2 r12 (rO.at x2 (by simp <;> omega)) r32 r42 r52
    by_cases c : i = gt p j
    · rw [c, gt_st_eq _ _ (by omega)]; omega
    · rw [gt_st_ne _ _ (by omega) c]
      have := hb i
      omega
theorem l_X0_drawR {s w o P C : Nat} (hs : s < 76) (eN : N = NN s) (hP : P ≤ N) (haw : a ≠ w) (hw : ∀ i, 1 ≤ i → i ≤ 5 → a + i ≠ w) (hC : ∀ j, gt C j < 512) {R' : rgT}
    (k : ∀ h' z, hx [a, w, a + 4, a + 5] h h' → hc h' a = some (chc N (a + 1) (a + 2) (a + 3) (a + 4) (a + 5) R'.2.2.2.2.1 R'.2.2.2.2.2.1 gT R'.1 R'.2.2.2.2.2.2) → Af h' (a + 1) N N (nx s) → Af h' (a + 5) N N (gt R'.2.2.1) → Af h' (a + 4) N N (gt R'.2.2.2.1) → Ok g MX0_draw (m_J g MX0_draw Q) 81 [some (.ref a), some (.ref w), some (.ref o), some (.int (nI P)), z] [] h' 2 770) :
    ∀ (d i : Nat) (R : rgT) (h1 : mH), rgN s N C d i R = some R' → i + d = N → R.1 ≤ i → R.2.2.2.2.2.2 ≤ N → hx [a, w, a + 4, a + 5] h h1 → hc h1 a = some (chc N (a + 1) (a + 2) (a + 3) (a + 4) (a + 5) R.2.2.2.2.1 R.2.2.2.2.2.1 gT R.1 R.2.2.2.2.2.2) → Af h1 (a + 1) N N (nx s) → Af h1 (a + 2) N N (gt C) → Af h1 w N N (gt R.2.1) → Af h1 (a + 5) N N (gt R.2.2.1) → Af h1 (a + 4) N N (gt R.2.2.2.1) →
    Ok g MX0_draw (m_J g MX0_draw Q) 28 [some (.ref a), some (.ref w), some (.ref o), some (.int (nI P)), some (.int (nI i))] [] h1 2 770 := by
  have hN := NN_lt hs
  rw [← eN] at hN
  intro d
  induction d with
  | zero =>
    intro i R h1 hR hi hl hb x1 ea r1 r2 rw1 r5 r4
    unfold rgN at hR
    cases hR
    refine ok_iload dX0_draw_28 rfl ?_
    refine ok_aload_n dX0_draw_30 rfl rfl ?_
    refine ok_get dX0_draw_31 fl_X0_15 (by assumption) (by rfl) ?_
    refine okN_icmp_ge (tgt := 81) dX0_draw_34 (by decide) (by omega) (by omega) (fun c1 => ?_) (fun c1 => ?_)
    · exact k h1 _ x1 ea r1 r5 r4
    · exact absurd c1 (by omega)
  | succ d ih =>
    intro i R h1 hR hi hl hb x1 ea r1 r2 rw1 r5 r4
    unfold rgN at hR
    have gc := hC i
    have o1 := hw 1 (by omega) (by omega)
    have o2 := hw 2 (by omega) (by omega)
    have o4 := hw 4 (by omega) (by omega)
    have o5 := hw 5 (by omega) (by omega)
    have rest : ∀ (h2 : mH) (lo2 : Nat), lo2 = R.1 + (if gt C i = 0 then 1 else 0) → hx [a] h1 h2 → hc h2 a = some (chc N (a + 1) (a + 2) (a + 3) (a + 4) (a + 5) R.2.2.2.2.1 R.2.2.2.2.2.1 gT lo2 R.2.2.2.2.2.2) → Ok g MX0_draw (m_J g MX0_draw Q) 61 [some (.ref a), some (.ref w), some (.ref o), some (.int (nI P)), some (.int (nI i))] [] h2 2 770 := by
      intro h2 lo2 el x2 ea2
      have r12 := r1.at x2 (by simp)
      have r22 := r2.at x2 (by simp)
      have rw2 := rw1.at x2 (by simp [Ne.symm haw])
      have r52 := r5.at x2 (by simp)
      have r42 := r4.at x2 (by simp)
      have gw := gt_lt R.2.1 i
      have x12 : hx [a, w, a + 4, a + 5] h h2 := x1.tr x2 (by simp) (by simp)
      have hl2 : lo2 ≤ i + 1 := by rw [el]; split <;> omega
      unfold rgS at hR
      refine ok_aload_n dX0_draw_61 rfl rfl ?_
      refine ok_iload dX0_draw_62 rfl ?_
      first | refine okN_iald dX0_draw_64 (by assumption) (by omega) (by decide) ?_ | refine okF_iald dX0_draw_64 (by assumption) (by omega) (by omega) ?_ | refine okN_kald dX0_draw_64 (by assumption) (by omega) (by decide) ?_
      refine okN_if_le (tgt := 75) dX0_draw_65 (by decide) (by omega) (fun c2 => ?_) (fun c2 => ?_)
      · rw [if_neg (by omega)] at hR
        dsimp only at hR
        rw [← el] at hR
        refine okN_inc dX0_draw_75 rfl (st_5_4 rfl) (Nat.le_of_ble_eq_true rfl) ?_
        refine ok_goto (tgt := 28) dX0_draw_78 (by decide) ?_
        exact ih (i + 1) _ h2 hR (by omega) hl2 hb x12 ea2 r12 r22 rw2 r52 r42
      · rw [if_pos c2] at hR
        cases e : dr1 s N i (N + 1) i 0 R.2.1 R.2.2.1 with
        | none => rw [e] at hR; cases hR
        | some q =>
          rw [e] at hR
          dsimp only at hR
          rw [← el] at hR
          refine ok_aload_n dX0_draw_68 rfl rfl ?_
          refine ok_iload dX0_draw_69 rfl ?_
          refine ok_aload_n dX0_draw_71 rfl rfl ?_
          refine call_X0_drawRing dX0_draw_72 lk_X0_53 ⟨Nat.le_of_ble_eq_true rfl, Nat.le_of_ble_eq_true rfl, Nat.le_of_ble_eq_true rfl⟩ (by assumption) (Nat.le_of_ble_eq_true rfl) ?_
          refine c_X0_drawRing hs eN (by omega) (by omega) haw (by omega) (by omega) (by omega) (by omega) (by omega) (by omega) (by omega) (by omega) (by omega) e ea2 r12 rw2 r52 r42 (fun h3 x3 ea3 r13 rw3 r53 r43 hm => ?_)
          refine okN_inc dX0_draw_75 rfl (st_5_4 rfl) (Nat.le_of_ble_eq_true rfl) ?_
          refine ok_goto (tgt := 28) dX0_draw_78 (by decide) ?_
          exact ih (i + 1) _ h3 hR (by omega) hl2 (mx_le hb hm) (x12.tr' x3) ea3 r13 (r22.at x3 (by simp <;> omega)) rw3 r53 r43
    refine ok_iload dX0_draw_28 rfl ?_
    refine ok_aload_n dX0_draw_30 rfl rfl ?_
    refine ok_get dX0_draw_31 fl_X0_15 (by assumption) (by rfl) ?_
    refine okN_icmp_ge (tgt := 81) dX0_draw_34 (by decide) (by omega) (by omega) (fun c1 => ?_) (fun c1 => ?_)
    · exact absurd c1 (by omega)
    · refine ok_aload_n dX0_draw_37 rfl rfl ?_
      refine ok_dup dX0_draw_38 rfl ?_
      refine ok_get dX0_draw_39 fl_X0_50 (by assumption) (by rfl) ?_
      refine ok_aload_n dX0_draw_42 rfl rfl ?_
      refine ok_get dX0_draw_43 fl_X0_25 (by assumption) (by rfl) ?_
      refine ok_iload dX0_draw_46 rfl ?_
      first | refine okN_iald dX0_draw_48 (by assumption) (by omega) (by decide) ?_ | refine okF_iald dX0_draw_48 (by assumption) (by omega) (by omega) ?_ | refine okN_kald dX0_draw_48 (by assumption) (by omega) (by decide) ?_
      refine okN_if_ne (tgt := 56) dX0_draw_49 (by decide) (by omega) (fun c2 => ?_) (fun c2 => ?_)
      · refine ok_iconst (v := nI 0) dX0_draw_56 (by decide) ?_
        first | refine okN_iadd dX0_draw_57 ?_ | refine ok_iadd dX0_draw_57 ?_
        refine okR_put dX0_draw_58 fl_X0_50 (by assumption) (Nat.le_of_ble_eq_true rfl) (fun _ => ⟨rfl, rfl⟩) set_11_9 (fun h2 hx2 he2 => ?_)
        exact rest h2 _ (by rw [if_neg (by omega)]) hx2 he2
      · refine ok_iconst (v := nI 1) dX0_draw_52 (by decide) ?_
        refine ok_goto (tgt := 57) dX0_draw_53 (by decide) ?_
        first | refine okN_iadd dX0_draw_57 ?_ | refine ok_iadd dX0_draw_57 ?_
        refine okR_put dX0_draw_58 fl_X0_50 (by assumption) (Nat.le_of_ble_eq_true rfl) (fun _ => ⟨rfl, rfl⟩) set_11_9 (fun h2 hx2 he2 => ?_)
        exact rest h2 _ (by rw [if_pos c2]) hx2 he2
theorem c_X0_draw {s : Nat} (hs : s < 76) (ea : hc h a = some (chc (NN s) (a + 1) (a + 2) (a + 3) (a + 4) (a + 5) 0 0 0 0 0)) (r1 : Af h (a + 1) (NN s) (NN s) (nx s)) (r2 : Af h (a + 2) (NN s) (NN s) (gt (coS s (NN s)))) (r3 : Af h (a + 3) (NN s) (NN s) (gt 0)) (r4 : Af h (a + 4) (NN s) (NN s) (gt 0)) (r5 : Af h (a + 5) (NN s) (NN s) (gt 0))
    (k : ∀ h', h'.1 = h.1 + 2 → hw [a, a + 3, a + 4, a + 5] h h' → Chd h' a s → Q none h') : Ok g MX0_draw (m_J g MX0_draw Q) 0 [some (.ref a), none, none, none, none] [] h 0 0 := by
  have hN := NN_lt hs
  obtain ⟨p, R, T, e1, e2, e3, e4⟩ := ch_parts hs
  have ha := (hc_lt ea).1
  have lt : ∀ {i f}, Af h i (NN s) (NN s) f → i < h.1 := fun r => by obtain ⟨F, e⟩ := r.cell; exact (hc_lt e).1
  have l1 := lt r1
  have l2 := lt r2
  have l3 := lt r3
  have l4 := lt r4
  have l5 := lt r5
  obtain ⟨q0, F, r2c, r2f⟩ := id r2
  refine ok_aload_n dX0_draw_0 rfl rfl ?_
  refine ok_get dX0_draw_1 fl_X0_25 (by assumption) (by rfl) ?_
  refine okR_cloneI dX0_draw_4 cl_X0_41 r2c (Nat.le_of_ble_eq_true rfl) (Nat.le_of_ble_eq_true rfl) ⟨Nat.le_of_ble_eq_true rfl, by show 0 + NN s ≤ 770; omega⟩ (fun h1 n1 ew1 => ?_)
  refine ok_castI dX0_draw_7 cc_X0_42 ew1 ?_
  have ea1 := n1.at ea
  refine ok_astore_n dX0_draw_10 (st_5_1 rfl) (Nat.le_of_ble_eq_true rfl) rfl ?_
  refine ok_aload_n dX0_draw_11 rfl rfl ?_
  refine ok_get dX0_draw_12 fl_X0_15 (by assumption) (by rfl) ?_
  refine okR_newI dX0_draw_15 (by omega) ⟨Nat.le_of_ble_eq_true rfl, by show 0 + NN s + NN s ≤ 770; omega⟩ (fun h2 n2 eo2 => ?_)
  refine ok_widen (uc' := 2) (us' := 770) (by omega) (by omega) ?_
  have s1 := n1.1
  have s2 := n2.1
  rw [s1] at eo2
  have ea2 := n2.at ea1
  have rw2 : Af h2 h.1 (NN s) (NN s) (gt (coS s (NN s))) := ⟨Nat.le_refl _, F, n2.at ew1, r2f⟩
  have ro2 : Af h2 (h.1 + 1) (NN s) (NN s) (gt 0) := ⟨Nat.le_refl _, _, eo2, fun j _ => (gt_0 j).symm⟩
  have r12 := (r1.hn n1).hn n2
  have r22 := (r2.hn n1).hn n2
  have r32 := (r3.hn n1).hn n2
  have r42 := (r4.hn n1).hn n2
  have r52 := (r5.hn n1).hn n2
  rw [s1]
  refine ok_astore_n dX0_draw_17 (st_5_2 rfl) (Nat.le_of_ble_eq_true rfl) rfl ?_
  refine ok_aload_n dX0_draw_18 rfl rfl ?_
  refine ok_aload_n dX0_draw_19 rfl rfl ?_
  refine ok_aload_n dX0_draw_20 rfl rfl ?_
  refine call_X0_peel dX0_draw_21 lk_X0_46 ⟨Nat.le_of_ble_eq_true rfl, Nat.le_of_ble_eq_true rfl, Nat.le_of_ble_eq_true rfl⟩ (by assumption) (Nat.le_of_ble_eq_true rfl) ?_
  refine c_X0_peel hs rfl (by omega) (by omega) (by omega) (by omega) (by omega) e1 ea2 r12 rw2 ro2 (fun h3 x3 rw3 ro3 hp3 hO3 => ?_)
  have ea3 := x3.at (by simp <;> omega) ea2
  have r13 := r12.at x3 (by simp <;> omega)
  have r23 := r22.at x3 (by simp <;> omega)
  have r33 := r32.at x3 (by simp <;> omega)
  have r43 := r42.at x3 (by simp <;> omega)
  have r53 := r52.at x3 (by simp <;> omega)
  refine ok_istore_n dX0_draw_24 (st_5_3 rfl) (Nat.le_of_ble_eq_true rfl) ?_
  refine ok_iconst (v := nI 0) dX0_draw_25 (by decide) ?_
  refine ok_istore dX0_draw_26 (st_5_4 rfl) (Nat.le_of_ble_eq_true rfl) ?_
  refine l_X0_drawR (h := h3) hs rfl hp3 (by omega) (fun i h1 h2 => by omega) (fun j => gt_lt _ _) (fun h4 z x4 ea4 r14 r54 r44 => ?_) (NN s) 0 _ h3 e2 (by omega) (Nat.le_refl _) (Nat.zero_le _) hx.rf ea3 r13 r23 rw3 r53 r43
  have ro4 := ro3.at x4 (by simp <;> omega)
  have r34 := r33.at x4 (by simp <;> omega)
  have r24 := r23.at x4 (by simp <;> omega)
  refine ok_iload_n dX0_draw_81 rfl ?_
  refine ok_iconst (v := nI 1) dX0_draw_82 (by decide) ?_
  refine ok_isub dX0_draw_83 ?_
  refine ok_istore dX0_draw_84 (st_5_4 rfl) (Nat.le_of_ble_eq_true rfl) ?_
  refine l_X0_drawT (h := h4) hs rfl hp3 (by omega) (fun i h1 h2 => by omega) hO3 (fun h5 x5 ea5 r15 r35 r45 r55 => ?_) p.2.2 _ h4 e3 (Nat.le_refl _) (fun i => by rw [gt_0]; omega) (Nat.zero_le _) hx.rf ea4 r14 ro4 r34 r44 r54
  have r25 := r24.at x5 (by simp)
  have e5 := e4
  refine k h5 (by rw [x5.1, x4.1, x3.1, s2, s1]) ?_ ?_
  · exact ((((n1.w (A := [a, a + 3, a + 4, a + 5])).tr (n2.w (A := [])) (by simp)).tr x3.w (by simp <;> omega)).tr x4.w (by simp <;> omega)).tr x5.w (by simp)
  · unfold Chd c_co c_ta c_be c_le
    rw [e4]
    exact ⟨ea5, r15, r25, r35, r45, r55⟩
end DRAW
