theorem ok_widen {g : mG} {M : mM} {J : mJ} {pc : Nat} {L : List (Option Value)} {sk : List Value} {h : mH} {uc us uc' us' : Nat} (h1 : uc ≤ uc') (h2 : us ≤ us') (k : Ok g M J pc L sk h uc' us') : Ok g M J pc L sk h uc us := by
  intro p e R s m args below meth c F C ls H locs hl hP hS
  exact W.widen h1 h2 (k p e R s m args below meth c F C ls H locs hl hP hS)
section CHARTN
variable {g : mG} {h : mH} {Q : Option Value → mH → Prop} {a a1 a2 a3 a4 a5 rc ro gT lo gB N : Nat}
theorem l_X0_dr1 {s w q : Nat} (hs : s < 76) (eN : N = NN s) (hq : q < N) (haw : a ≠ w) (ha5 : a ≠ a5) (hw5 : w ≠ a5) (h1w : a1 ≠ w) (h15 : a1 ≠ a5) {R : Nat × Nat × Nat × Nat}
    (k : ∀ h', hx [w, a5] h h' → hc h' a = some (chc N a1 a2 a3 a4 a5 rc ro gT lo gB) → Af h' a1 N N (nx s) → Af h' w N N (gt R.2.2.1) → Af h' a5 N N (gt R.2.2.2) → R.1 < N → R.2.1 ≤ N → Ok g MX0_drawRing (m_J g MX0_drawRing Q) 48 [some (.ref a), some (.int (nI q)), some (.ref w), some (.int (nI R.2.1)), some (.int (nI R.1)), none] [] h' 0 0) :
    ∀ (f i m W E : Nat) (h1 : mH), dr1 s N q f i m W E = some R → i < N → m ≤ N → hx [w, a5] h h1 → hc h1 a = some (chc N a1 a2 a3 a4 a5 rc ro gT lo gB) → Af h1 a1 N N (nx s) → Af h1 w N N (gt W) → Af h1 a5 N N (gt E) →
    Ok g MX0_drawRing (m_J g MX0_drawRing Q) 5 [some (.ref a), some (.int (nI q)), some (.ref w), some (.int (nI m)), some (.int (nI i)), none] [] h1 0 0 := by
  have hN := NN_lt hs
  rw [← eN] at hN
  intro f
  induction f with
  | zero => intro i m W E h1 hf; cases hf
  | succ f ih =>
    intro i m W E h1 hf hi hm x1 ea r1 rw1 r5
    unfold dr1 at hf
    have gw := gt_lt W i
    have gk := (ch_k hs (k := i) (by omega)).2.2.2.2.2.2.2.2.2.2
    rw [← eN] at gk
    refine ok_iload_n dX0_drawRing_5 rfl ?_
    refine ok_aload_n dX0_drawRing_6 rfl rfl ?_
    refine ok_get dX0_drawRing_7 fl_X0_15 (by assumption) (by rfl) ?_
    refine okN_icmp_ge (tgt := 48) dX0_drawRing_10 (by decide) (by omega) (by omega) (fun c1 => ?_) (fun c1 => ?_)
    · rw [if_neg (by omega)] at hf
      cases hf
      exact k h1 x1 ea r1 rw1 r5 hi hm
    · refine ok_aload_n dX0_drawRing_13 rfl rfl ?_
      refine ok_iload dX0_drawRing_14 rfl ?_
      first | refine okN_iald dX0_drawRing_16 (by assumption) (by omega) (by decide) ?_ | refine okF_iald dX0_drawRing_16 (by assumption) (by omega) (by omega) ?_ | refine okN_kald dX0_drawRing_16 (by assumption) (by omega) (by decide) ?_
      refine okN_if_le (tgt := 48) dX0_drawRing_17 (by decide) (by omega) (fun c2 => ?_) (fun c2 => ?_)
      · rw [if_neg (by omega)] at hf
        cases hf
        exact k h1 x1 ea r1 rw1 r5 hi hm
      · rw [if_pos ⟨c1, c2⟩] at hf
        refine ok_aload_n dX0_drawRing_20 rfl rfl ?_
        refine ok_iload dX0_drawRing_21 rfl ?_
        refine ok_iconst (v := nI 0) dX0_drawRing_23 (by decide) ?_
        first | refine okN_iast dX0_drawRing_24 (by assumption) (by omega) (by decide) (fun h2 hx2 he2 => ?_) | refine okC_iast dX0_drawRing_24 (by assumption) (by omega) (by omega) (by omega) (fun h2 hx2 he2 => ?_) | refine okF_iast dX0_drawRing_24 (by assumption) (by omega) (by omega) (fun h2 hx2 he2 => ?_) | refine okN_kast dX0_drawRing_24 (by assumption) (by omega) (by decide) (fun h2 hx2 he2 => ?_)
        have ea2 := hx2.at (by simp [haw]) ea
        have r12 := r1.at hx2 (by simp [h1w])
        have r52 := r5.at hx2 (by simp [Ne.symm hw5])
        refine ok_aload_n dX0_drawRing_25 rfl rfl ?_
        refine ok_get dX0_drawRing_26 fl_X0_34 (by assumption) (by rfl) ?_
        refine ok_iload dX0_drawRing_29 rfl ?_
        refine ok_iload_n dX0_drawRing_31 rfl ?_
        first | refine okN_iast dX0_drawRing_32 (by assumption) (by omega) (by decide) (fun h3 hx3 he3 => ?_) | refine okC_iast dX0_drawRing_32 (by assumption) (by omega) (by omega) (by omega) (fun h3 hx3 he3 => ?_) | refine okF_iast dX0_drawRing_32 (by assumption) (by omega) (by omega) (fun h3 hx3 he3 => ?_) | refine okN_kast dX0_drawRing_32 (by assumption) (by omega) (by decide) (fun h3 hx3 he3 => ?_)
        have ea3 := hx3.at (by simp [ha5]) ea2
        have r13 := r12.at hx3 (by simp [h15])
        refine okN_inc dX0_drawRing_33 rfl (st_6_3 rfl) (Nat.le_of_ble_eq_true rfl) ?_
        refine ok_aload_n dX0_drawRing_36 rfl rfl ?_
        refine ok_get dX0_drawRing_37 fl_X0_21 (by assumption) (by rfl) ?_
        refine ok_iload dX0_drawRing_40 rfl ?_
        first | refine okN_iald dX0_drawRing_42 (by assumption) (by omega) (by decide) ?_ | refine okF_iald dX0_drawRing_42 (by assumption) (by omega) (by omega) ?_ | refine okN_kald dX0_drawRing_42 (by assumption) (by omega) (by decide) ?_
        refine ok_istore dX0_drawRing_43 (st_6_4 rfl) (Nat.le_of_ble_eq_true rfl) ?_
        refine ok_goto (tgt := 5) dX0_drawRing_45 (by decide) ?_
        exact ih _ _ _ _ h3 hf gk (by omega) ((x1.tr hx2 (C := [w, a5]) (by simp) (by simp)).tr hx3 (by simp) (by simp)) ea3 r13 (he2.at hx3 (by simp [hw5])) he3
theorem l_X0_dr2 {s w q m : Nat} (hs : s < 76) (eN : N = NN s) (hm : m ≤ N) (ha4 : a ≠ a4) (h14 : a1 ≠ a4)
    {E : Nat} (k : ∀ h' z, hx [a4] h h' → hc h' a = some (chc N a1 a2 a3 a4 a5 rc ro gT lo gB) → Af h' a4 N N (gt E) → Ok g MX0_drawRing (m_J g MX0_drawRing Q) 80 [some (.ref a), some (.int (nI q)), some (.ref w), some (.int (nI m)), z, some (.int (nI m))] [] h' 0 0) :
    ∀ (d i j B : Nat) (h1 : mH), dr2 s m d j B = E → i + d = m → j < N → hx [a4] h h1 → hc h1 a = some (chc N a1 a2 a3 a4 a5 rc ro gT lo gB) → Af h1 a1 N N (nx s) → Af h1 a4 N N (gt B) →
    Ok g MX0_drawRing (m_J g MX0_drawRing Q) 51 [some (.ref a), some (.int (nI q)), some (.ref w), some (.int (nI m)), some (.int (nI j)), some (.int (nI i))] [] h1 0 0 := by
  have hN := NN_lt hs
  rw [← eN] at hN
  intro d
  induction d with
  | zero =>
    intro i j B h1 hE hi hj x1 ea r1 r4
    unfold dr2 at hE
    subst hE
    have ei : i = m := by omega
    subst ei
    refine ok_iload dX0_drawRing_51 rfl ?_
    refine ok_iload_n dX0_drawRing_53 rfl ?_
    refine okN_icmp_ge (tgt := 80) dX0_drawRing_54 (by decide) (by omega) (by omega) (fun c1 => ?_) (fun c1 => ?_)
    · exact k h1 _ x1 ea r4
    · exact absurd c1 (by omega)
  | succ d ih =>
    intro i j B h1 hE hi hj x1 ea r1 r4
    unfold dr2 at hE
    have gk := (ch_k hs (k := j) (by omega)).2.2.2.2.2.2.2.2.2.2
    rw [← eN] at gk
    refine ok_iload dX0_drawRing_51 rfl ?_
    refine ok_iload_n dX0_drawRing_53 rfl ?_
    refine okN_icmp_ge (tgt := 80) dX0_drawRing_54 (by decide) (by omega) (by omega) (fun c1 => ?_) (fun c1 => ?_)
    · exact absurd c1 (by omega)
    · refine ok_aload_n dX0_drawRing_57 rfl rfl ?_
      refine ok_get dX0_drawRing_58 fl_X0_31 (by assumption) (by rfl) ?_
      refine ok_iload dX0_drawRing_61 rfl ?_
      refine ok_iload_n dX0_drawRing_63 rfl ?_
      first | refine okN_iast dX0_drawRing_64 (by assumption) (by omega) (by decide) (fun h2 hx2 he2 => ?_) | refine okC_iast dX0_drawRing_64 (by assumption) (by omega) (by omega) (by omega) (fun h2 hx2 he2 => ?_) | refine okF_iast dX0_drawRing_64 (by assumption) (by omega) (by omega) (fun h2 hx2 he2 => ?_) | refine okN_kast dX0_drawRing_64 (by assumption) (by omega) (by decide) (fun h2 hx2 he2 => ?_)
      have ea2 := hx2.at (by simp [ha4]) ea
      have r12 := r1.at hx2 (by simp [h14])
      refine ok_aload_n dX0_drawRing_65 rfl rfl ?_
      refine ok_get dX0_drawRing_66 fl_X0_21 (by assumption) (by rfl) ?_
      refine ok_iload dX0_drawRing_69 rfl ?_
      first | refine okN_iald dX0_drawRing_71 (by assumption) (by omega) (by decide) ?_ | refine okF_iald dX0_drawRing_71 (by assumption) (by omega) (by omega) ?_ | refine okN_kald dX0_drawRing_71 (by assumption) (by omega) (by decide) ?_
      refine ok_istore dX0_drawRing_72 (st_6_4 rfl) (Nat.le_of_ble_eq_true rfl) ?_
      refine okN_inc dX0_drawRing_74 rfl (st_6_5 rfl) (Nat.le_of_ble_eq_true rfl) ?_
      refine ok_goto (tgt := 51) dX0_drawRing_77 (by decide) ?_
      exact ih (i + 1) _ _ h2 hE (by omega) gk (x1.tr' hx2) ea2 r12 he2
theorem c_X0_drawRing {s w q W E B : Nat} (hs : s < 76) (eN : N = NN s) (hq : q < N) (hgB : gB < 2 ^ 31) (d1 : a ≠ w) (d2 : a ≠ a1) (d3 : a ≠ a4) (d4 : a ≠ a5) (d5 : w ≠ a1) (d6 : w ≠ a4) (d7 : w ≠ a5) (d8 : a1 ≠ a4) (d9 : a1 ≠ a5) (d10 : a4 ≠ a5) {R : Nat × Nat × Nat × Nat} (hR : dr1 s N q (N + 1) q 0 W E = some R) (ea : hc h a = some (chc N a1 a2 a3 a4 a5 rc ro gT lo gB)) (r1 : Af h a1 N N (nx s)) (rw1 : Af h w N N (gt W)) (r5 : Af h a5 N N (gt E)) (r4 : Af h a4 N N (gt B))
    (k : ∀ h', hx [a, w, a4, a5] h h' → hc h' a = some (chc N a1 a2 a3 a4 a5 (rc + 1) (ro + R.2.1) gT lo (mx gB R.2.1)) → Af h' a1 N N (nx s) → Af h' w N N (gt R.2.2.1) → Af h' a5 N N (gt R.2.2.2) → Af h' a4 N N (gt (dr2 s R.2.1 R.2.1 R.1 B)) → R.2.1 ≤ N → Q none h') :
    Ok g MX0_drawRing (m_J g MX0_drawRing Q) 0 [some (.ref a), some (.int (nI q)), some (.ref w), none, none, none] [] h 0 0 := by
  have hN := NN_lt hs
  rw [← eN] at hN
  refine ok_iconst (v := nI 0) dX0_drawRing_0 (by decide) ?_
  refine ok_istore_n dX0_drawRing_1 (st_6_3 rfl) (Nat.le_of_ble_eq_true rfl) ?_
  refine ok_iload_n dX0_drawRing_2 rfl ?_
  refine ok_istore dX0_drawRing_3 (st_6_4 rfl) (Nat.le_of_ble_eq_true rfl) ?_
  refine l_X0_dr1 (h := h) hs eN hq d1 d4 d7 (Ne.symm d5) d9 (fun h1 x1 ea1 r11 rw11 r51 hk1 hm1 => ?_) (N + 1) q 0 W E h hR hq (by omega) hx.rf ea r1 rw1 r5
  have r41 := r4.at x1 (by simp [Ne.symm d6, d10])
  refine ok_iconst (v := nI 0) dX0_drawRing_48 (by decide) ?_
  refine ok_istore dX0_drawRing_49 (st_6_5 rfl) (Nat.le_of_ble_eq_true rfl) ?_
  refine l_X0_dr2 (h := h1) hs eN hm1 d3 d8 (fun h2 z x2 ea2 r42 => ?_) R.2.1 0 R.1 B h1 rfl (by omega) hk1 hx.rf ea1 r11 r41
  have r12 := r11.at x2 (by simp [d8])
  have rw2 := rw11.at x2 (by simp [d6])
  have r52 := r51.at x2 (by simp [Ne.symm d10])
  refine ok_aload_n dX0_drawRing_80 rfl rfl ?_
  refine ok_dup dX0_drawRing_81 rfl ?_
  refine ok_get dX0_drawRing_82 fl_X0_61 (by assumption) (by rfl) ?_
  refine ok_iconst (v := nI 1) dX0_drawRing_85 (by decide) ?_
  first | refine okN_iadd dX0_drawRing_86 ?_ | refine ok_iadd dX0_drawRing_86 ?_
  refine okR_put dX0_drawRing_87 fl_X0_61 (by assumption) (Nat.le_of_ble_eq_true rfl) (fun _ => ⟨rfl, rfl⟩) set_11_6 (fun h3 hx3 he3 => ?_)
  refine ok_aload_n dX0_drawRing_90 rfl rfl ?_
  refine ok_dup dX0_drawRing_91 rfl ?_
  refine ok_get dX0_drawRing_92 fl_X0_64 (by assumption) (by rfl) ?_
  refine ok_iload_n dX0_drawRing_95 rfl ?_
  first | refine okN_iadd dX0_drawRing_96 ?_ | refine ok_iadd dX0_drawRing_96 ?_
  refine okR_put dX0_drawRing_97 fl_X0_64 (by assumption) (Nat.le_of_ble_eq_true rfl) (fun _ => ⟨rfl, rfl⟩) set_11_7 (fun h4 hx4 he4 => ?_)
  refine ok_aload_n dX0_drawRing_100 rfl rfl ?_
  refine ok_aload_n dX0_drawRing_101 rfl rfl ?_
  refine ok_get dX0_drawRing_102 fl_X0_67 (by assumption) (by rfl) ?_
  refine ok_iload_n dX0_drawRing_105 rfl ?_
  refine okN_max dX0_drawRing_106 mmax_X0_9 (Nat.le_of_ble_eq_true rfl) ⟨Nat.le_of_ble_eq_true rfl, Nat.le_of_ble_eq_true rfl⟩ (Nat.le_of_ble_eq_true rfl) (by omega) (by omega) ?_
  refine okR_put dX0_drawRing_109 fl_X0_67 (by assumption) (Nat.le_of_ble_eq_true rfl) (fun _ => ⟨rfl, rfl⟩) set_11_10 (fun h5 hx5 he5 => ?_)
  refine ok_vret dX0_drawRing_112 rfl ⟨Nat.le_of_ble_eq_true rfl, Nat.le_of_ble_eq_true rfl⟩ ?_
  refine k h5 ((((x1.tr x2 (C := [a, w, a4, a5]) (by simp) (by simp)).tr hx3 (C := [a, w, a4, a5]) (by simp) (by simp)).tr hx4 (C := [a, w, a4, a5]) (by simp) (by simp)).tr hx5 (by simp) (by simp)) he5 ?_ ?_ ?_ ?_ hm1
  · exact ((r12.at hx3 (by simp [Ne.symm d2])).at hx4 (by simp [Ne.symm d2])).at hx5 (by simp [Ne.symm d2])
  · exact ((rw2.at hx3 (by simp [Ne.symm d1])).at hx4 (by simp [Ne.symm d1])).at hx5 (by simp [Ne.symm d1])
  · exact ((r52.at hx3 (by simp [Ne.symm d4])).at hx4 (by simp [Ne.symm d4])).at hx5 (by simp [Ne.symm d4])
  · exact ((r42.at hx3 (by simp [Ne.symm d3])).at hx4 (by simp [Ne.symm d3])).at hx5 (by simp [Ne.symm d3])
theorem c_X0_drawTail {s i T B E : Nat} (hs : s < 76) (eN : N = NN s) (hi : i < N) (hgT : gT < 2 ^ 31) (hT : gt T (nx s i) < 500) (d1 : a ≠ a1) (d2 : a ≠ a3) (d3 : a ≠ a4) (d4 : a ≠ a5) (d5 : a1 ≠ a3) (d6 : a1 ≠ a4) (d7 : a1 ≠ a5) (d8 : a3 ≠ a4) (d9 : a3 ≠ a5) (d10 : a4 ≠ a5) (ea : hc h a = some (chc N a1 a2 a3 a4 a5 rc ro gT lo gB)) (r1 : Af h a1 N N (nx s)) (r3 : Af h a3 N N (gt T)) (r4 : Af h a4 N N (gt B)) (r5 : Af h a5 N N (gt E))
    (k : ∀ h', hx [a, a3, a4, a5] h h' → hc h' a = some (chc N a1 a2 a3 a4 a5 rc ro (mx gT (gt T (nx s i) + 1)) lo gB) → Af h' a1 N N (nx s) → Af h' a3 N N (gt (st T i (gt T (nx s i) + 1))) → Af h' a4 N N (gt (st B i (gt B (nx s i)))) → Af h' a5 N N (gt (st E i (gt E (nx s i)))) → Q none h') :
    Ok g MX0_drawTail (m_J g MX0_drawTail Q) 0 [some (.ref a), some (.int (nI i)), none] [] h 0 0 := by
  have hN := NN_lt hs
  have gk := (ch_k hs (k := i) (by omega)).2.2.2.2.2.2.2.2.2.2
  rw [← eN] at hN gk
  have gb := gt_lt B (nx s i)
  have ge1 := gt_lt E (nx s i)
  refine ok_aload_n dX0_drawTail_0 rfl rfl ?_
  refine ok_get dX0_drawTail_1 fl_X0_21 (by assumption) (by rfl) ?_
  refine ok_iload_n dX0_drawTail_4 rfl ?_
  first | refine okN_iald dX0_drawTail_5 (by assumption) (by omega) (by decide) ?_ | refine okF_iald dX0_drawTail_5 (by assumption) (by omega) (by omega) ?_ | refine okN_kald dX0_drawTail_5 (by assumption) (by omega) (by decide) ?_
  refine ok_istore_n dX0_drawTail_6 (st_3_2 rfl) (Nat.le_of_ble_eq_true rfl) ?_
  refine ok_aload_n dX0_drawTail_7 rfl rfl ?_
  refine ok_get dX0_drawTail_8 fl_X0_28 (by assumption) (by rfl) ?_
  refine ok_iload_n dX0_drawTail_11 rfl ?_
  refine ok_aload_n dX0_drawTail_12 rfl rfl ?_
  refine ok_get dX0_drawTail_13 fl_X0_28 (by assumption) (by rfl) ?_
  refine ok_iload_n dX0_drawTail_16 rfl ?_
  first | refine okN_iald dX0_drawTail_17 (by assumption) (by omega) (by decide) ?_ | refine okF_iald dX0_drawTail_17 (by assumption) (by omega) (by omega) ?_ | refine okN_kald dX0_drawTail_17 (by assumption) (by omega) (by decide) ?_
  refine ok_iconst (v := nI 1) dX0_drawTail_18 (by decide) ?_
  first | refine okN_iadd dX0_drawTail_19 ?_ | refine ok_iadd dX0_drawTail_19 ?_
  first | refine okN_iast dX0_drawTail_20 (by assumption) (by omega) (by decide) (fun h1 hx1 he1 => ?_) | refine okC_iast dX0_drawTail_20 (by assumption) (by omega) (by omega) (by omega) (fun h1 hx1 he1 => ?_) | refine okF_iast dX0_drawTail_20 (by assumption) (by omega) (by omega) (fun h1 hx1 he1 => ?_) | refine okN_kast dX0_drawTail_20 (by assumption) (by omega) (by decide) (fun h1 hx1 he1 => ?_)
  have ea1 := hx1.at (by simp [d2]) ea
  have r11 := r1.at hx1 (by simp [d5])
  have r41 := r4.at hx1 (by simp [Ne.symm d8])
  have r51 := r5.at hx1 (by simp [Ne.symm d9])
  refine ok_aload_n dX0_drawTail_21 rfl rfl ?_
  refine ok_get dX0_drawTail_22 fl_X0_31 (by assumption) (by rfl) ?_
  refine ok_iload_n dX0_drawTail_25 rfl ?_
  refine ok_aload_n dX0_drawTail_26 rfl rfl ?_
  refine ok_get dX0_drawTail_27 fl_X0_31 (by assumption) (by rfl) ?_
  refine ok_iload_n dX0_drawTail_30 rfl ?_
  first | refine okN_iald dX0_drawTail_31 (by assumption) (by omega) (by decide) ?_ | refine okF_iald dX0_drawTail_31 (by assumption) (by omega) (by omega) ?_ | refine okN_kald dX0_drawTail_31 (by assumption) (by omega) (by decide) ?_
  first | refine okN_iast dX0_drawTail_32 (by assumption) (by omega) (by decide) (fun h2 hx2 he2 => ?_) | refine okC_iast dX0_drawTail_32 (by assumption) (by omega) (by omega) (by omega) (fun h2 hx2 he2 => ?_) | refine okF_iast dX0_drawTail_32 (by assumption) (by omega) (by omega) (fun h2 hx2 he2 => ?_) | refine okN_kast dX0_drawTail_32 (by assumption) (by omega) (by decide) (fun h2 hx2 he2 => ?_)
  have ea2 := hx2.at (by simp [d3]) ea1
  have r12 := r11.at hx2 (by simp [d6])
  have r32 := he1.at hx2 (by simp [d8])
  have r52 := r51.at hx2 (by simp [Ne.symm d10])
  refine ok_aload_n dX0_drawTail_33 rfl rfl ?_
  refine ok_get dX0_drawTail_34 fl_X0_34 (by assumption) (by rfl) ?_
  refine ok_iload_n dX0_drawTail_37 rfl ?_
  refine ok_aload_n dX0_drawTail_38 rfl rfl ?_
  refine ok_get dX0_drawTail_39 fl_X0_34 (by assumption) (by rfl) ?_
  refine ok_iload_n dX0_drawTail_42 rfl ?_
  first | refine okN_iald dX0_drawTail_43 (by assumption) (by omega) (by decide) ?_ | refine okF_iald dX0_drawTail_43 (by assumption) (by omega) (by omega) ?_ | refine okN_kald dX0_drawTail_43 (by assumption) (by omega) (by decide) ?_
  first | refine okN_iast dX0_drawTail_44 (by assumption) (by omega) (by decide) (fun h3 hx3 he3 => ?_) | refine okC_iast dX0_drawTail_44 (by assumption) (by omega) (by omega) (by omega) (fun h3 hx3 he3 => ?_) | refine okF_iast dX0_drawTail_44 (by assumption) (by omega) (by omega) (fun h3 hx3 he3 => ?_) | refine okN_kast dX0_drawTail_44 (by assumption) (by omega) (by decide) (fun h3 hx3 he3 => ?_)
  have ea3 := hx3.at (by simp [d4]) ea2
  have r13 := r12.at hx3 (by simp [d7])
  have r33 := r32.at hx3 (by simp [d9])
  have r43 := he2.at hx3 (by simp [d10])
  refine ok_aload_n dX0_drawTail_45 rfl rfl ?_
  refine ok_aload_n dX0_drawTail_46 rfl rfl ?_
  refine ok_get dX0_drawTail_47 fl_X0_70 (by assumption) (by rfl) ?_
  refine ok_aload_n dX0_drawTail_50 rfl rfl ?_
  refine ok_get dX0_drawTail_51 fl_X0_28 (by assumption) (by rfl) ?_
  refine ok_iload_n dX0_drawTail_54 rfl ?_
  first | refine okN_iald dX0_drawTail_55 (by assumption) (by omega) (by decide) ?_ | refine okF_iald dX0_drawTail_55 (by assumption) (by omega) (by omega) ?_ | refine okN_kald dX0_drawTail_55 (by assumption) (by omega) (by decide) ?_
  rw [gt_st_eq T i (by omega)]
  refine okN_max dX0_drawTail_56 mmax_X0_9 (Nat.le_of_ble_eq_true rfl) ⟨Nat.le_of_ble_eq_true rfl, Nat.le_of_ble_eq_true rfl⟩ (Nat.le_of_ble_eq_true rfl) (by omega) (by omega) ?_
  refine okR_put dX0_drawTail_59 fl_X0_70 (by assumption) (Nat.le_of_ble_eq_true rfl) (fun _ => ⟨rfl, rfl⟩) set_11_8 (fun h4 hx4 he4 => ?_)
  refine ok_vret dX0_drawTail_62 rfl ⟨Nat.le_of_ble_eq_true rfl, Nat.le_of_ble_eq_true rfl⟩ ?_
  exact k h4 (((hx1.tr hx2 (C := [a, a3, a4, a5]) (by simp) (by simp)).tr hx3 (C := [a, a3, a4, a5]) (by simp) (by simp)).tr hx4 (by simp) (by simp)) he4 (r13.at hx4 (by simp [Ne.symm d1])) (r33.at hx4 (by simp [Ne.symm d2])) (r43.at hx4 (by simp [Ne.symm d3])) (he3.at hx4 (by simp [Ne.symm d4]))
end CHARTN
