/-! ===== the law's loop and the claim ===== -/
section LAWC
variable {g : mG} {b Ls : Nat} {xs : Nat → Int32}
theorem law_loop (hL : Ls ≤ 2560) : ∀ (f t : Nat) (S : ST) (h : mH), t + f = 513 → IX h S → IM h S → 64 ≤ h.1 → Ok g ML_law (jL g b Ls xs) 18 [some (.retAddr b), some (.ref 0), some (.ref 46), some (.int (nI (5 * t)))] [] h (64 + 8 * t) (12374 + 2706 * t) := by
  have fin : ∀ (t : Nat) (h : mH), t ≤ 513 → Ok g ML_law (jL g b Ls xs) 1070 [some (.retAddr b), some (.ref 0), some (.ref 46), some (.int (nI (5 * t)))] [] h (64 + 8 * t) (12374 + 2706 * t) := by
    intro t h ht
    refine ok_iconst (v := nI 1) dL_law_1070 (by decide) ?_
    exact ok_lawend dL_law_1071 ⟨by omega, by omega⟩
  intro f
  induction f with
  | zero =>
    intro t S h ht I M h64
    refine ok_iload_n dL_law_18 rfl ?_
    refine ok_aload_n dL_law_19 rfl rfl ?_
    refine ok_slen dL_law_20 jL_s ?_
    refine ok_iconst (v := nI 5) dL_law_21 (by decide) ?_
    refine ok_isub dL_law_22 ?_
    refine ok_icmp_gt (tgt := 1070) dL_law_23 (by decide) (fun c => fin t h (by omega)) (fun c => absurd ?_ c)
    by_cases c5 : 5 ≤ Ls
    · rw [pk_sub c5, nI_ltI (by omega) (by omega)]
      omega
    · have n1 := pk_sneg (a := Ls) (b := 5) (by decide) (by omega)
      rw [Int32.lt_iff_toInt_lt] at n1 ⊢
      rw [nI_toInt (show 5 * t < 2 ^ 31 by omega)]
      have : (0 : Int32).toInt = 0 := rfl
      omega
  | succ f ih =>
    intro t S h ht I M h64
    refine ok_iload_n dL_law_18 rfl ?_
    refine ok_aload_n dL_law_19 rfl rfl ?_
    refine ok_slen dL_law_20 jL_s ?_
    refine ok_iconst (v := nI 5) dL_law_21 (by decide) ?_
    refine ok_isub dL_law_22 ?_
    refine ok_icmp_gt (tgt := 1070) dL_law_23 (by decide) (fun c => fin t h (by omega)) (fun c => ?_)
    have hi : 5 * t + 5 ≤ Ls := by
      by_cases c5 : 5 ≤ Ls
      · rw [pk_sub c5, nI_ltI (by omega) (by omega)] at c
        omega
      · exfalso
        apply c
        have n1 := pk_sneg (a := Ls) (b := 5) (by decide) (by omega)
        rw [Int32.lt_iff_toInt_lt] at n1 ⊢
        rw [nI_toInt (show 5 * t < 2 ^ 31 by omega)]
        have : (0 : Int32).toInt = 0 := rfl
        omega
    have nxt : ∀ h' S', IX h' S' → IM h' S' → 64 ≤ h'.1 → Ok g ML_law (jL g b Ls xs) 1064 [some (.retAddr b), some (.ref 0), some (.ref 46), some (.int (nI (5 * t)))] [] h' (64 + 8 * (t + 1)) (12374 + 2706 * (t + 1)) := by
      intro h' S' I' M' z'
      refine ok_iinc (v := nI (5 * (t + 1))) dL_law_1064 rfl (by rw [show 5 * (t + 1) = 5 * t + 5 by omega, ← nI_add]; rfl) (st_4_3 rfl) (Nat.le_of_ble_eq_true rfl) ?_
      refine ok_goto (tgt := 18) dL_law_1067 (by decide) ?_
      exact ih (t + 1) S' h' (by omega) I' M' z'
    refine ok_aload_n dL_law_26 rfl rfl ?_
    refine ok_iload_n dL_law_27 rfl ?_
    refine okN_sald dL_law_28 (by omega) (by omega) ?_
    refine ok_bipush (v := nI 31) dL_law_29 (by decide) ?_
    refine ok_iand dL_law_31 ?_
    obtain ⟨q, hq, eq⟩ := and31 (xs (5 * t))
    rw [eq]
    rcases (show q = 0 ∨ q = 1 ∨ q = 2 ∨ q = 3 ∨ q = 4 ∨ q = 5 ∨ q = 6 ∨ q = 7 ∨ q = 8 ∨ q = 9 ∨ q = 10 ∨ q = 11 ∨ q = 12 ∨ q = 13 ∨ q = 14 ∨ q = 15 ∨ q = 16 ∨ q = 17 ∨ q = 18 ∨ q = 19 ∨ q = 20 ∨ q = 21 ∨ q = 22 ∨ q = 23 ∨ q = 24 ∨ q = 25 ∨ q = 26 ∨ q = 27 ∨ q = 28 ∨ q = 29 ∨ q = 30 ∨ q = 31 by omega) with rfl | rfl | rfl | rfl | rfl | rfl | rfl | rfl | rfl | rfl | rfl | rfl | rfl | rfl | rfl | rfl | rfl | rfl | rfl | rfl | rfl | rfl | rfl | rfl | rfl | rfl | rfl | rfl | rfl | rfl | rfl | rfl
    · exact ok_tableIn (off := 144) (tgt := 176) dL_law_32 (by decide) (by decide) (by decide) (by decide) (law_0 hi hL I M h64 nxt)
    · exact ok_tableIn (off := 167) (tgt := 199) dL_law_32 (by decide) (by decide) (by decide) (by decide) (law_1 hi hL I M h64 nxt)
    · exact ok_tableIn (off := 200) (tgt := 232) dL_law_32 (by decide) (by decide) (by decide) (by decide) (law_2 hi hL I M h64 nxt)
    · exact ok_tableIn (off := 233) (tgt := 265) dL_law_32 (by decide) (by decide) (by decide) (by decide) (law_3 hi hL I M h64 nxt)
    · exact ok_tableIn (off := 266) (tgt := 298) dL_law_32 (by decide) (by decide) (by decide) (by decide) (law_4 hi hL I M h64 nxt)
    · exact ok_tableIn (off := 289) (tgt := 321) dL_law_32 (by decide) (by decide) (by decide) (by decide) (law_5 hi hL I M h64 nxt)
    · exact ok_tableIn (off := 342) (tgt := 374) dL_law_32 (by decide) (by decide) (by decide) (by decide) (law_6 hi hL I M h64 nxt)
    · exact ok_tableIn (off := 365) (tgt := 397) dL_law_32 (by decide) (by decide) (by decide) (by decide) (law_7 hi hL I M h64 nxt)
    · exact ok_tableIn (off := 388) (tgt := 420) dL_law_32 (by decide) (by decide) (by decide) (by decide) (law_8 hi hL I M h64 nxt)
    · exact ok_tableIn (off := 421) (tgt := 453) dL_law_32 (by decide) (by decide) (by decide) (by decide) (law_9 hi hL I M h64 nxt)
    · exact ok_tableIn (off := 444) (tgt := 476) dL_law_32 (by decide) (by decide) (by decide) (by decide) (law_10 hi hL I M h64 nxt)
    · exact ok_tableIn (off := 467) (tgt := 499) dL_law_32 (by decide) (by decide) (by decide) (by decide) (law_11 hi hL I M h64 nxt)
    · exact ok_tableIn (off := 490) (tgt := 522) dL_law_32 (by decide) (by decide) (by decide) (by decide) (law_12 hi hL I M h64 nxt)
    · exact ok_tableIn (off := 533) (tgt := 565) dL_law_32 (by decide) (by decide) (by decide) (by decide) (law_13 hi hL I M h64 nxt)
    · exact ok_tableIn (off := 556) (tgt := 588) dL_law_32 (by decide) (by decide) (by decide) (by decide) (law_14 hi hL I M h64 nxt)
    · exact ok_tableIn (off := 589) (tgt := 621) dL_law_32 (by decide) (by decide) (by decide) (by decide) (law_15 hi hL I M h64 nxt)
    · exact ok_tableIn (off := 612) (tgt := 644) dL_law_32 (by decide) (by decide) (by decide) (by decide) (law_16 hi hL I M h64 nxt)
    · exact ok_tableIn (off := 635) (tgt := 667) dL_law_32 (by decide) (by decide) (by decide) (by decide) (law_17 hi hL I M h64 nxt)
    · exact ok_tableIn (off := 658) (tgt := 690) dL_law_32 (by decide) (by decide) (by decide) (by decide) (law_18 hi hL I M h64 nxt)
    · exact ok_tableIn (off := 691) (tgt := 723) dL_law_32 (by decide) (by decide) (by decide) (by decide) (law_19 hi hL I M h64 nxt)
    · exact ok_tableIn (off := 724) (tgt := 756) dL_law_32 (by decide) (by decide) (by decide) (by decide) (law_20 hi hL I M h64 nxt)
    · exact ok_tableIn (off := 747) (tgt := 779) dL_law_32 (by decide) (by decide) (by decide) (by decide) (law_21 hi hL I M h64 nxt)
    · exact ok_tableIn (off := 780) (tgt := 812) dL_law_32 (by decide) (by decide) (by decide) (by decide) (law_22 hi hL I M h64 nxt)
    · exact ok_tableIn (off := 813) (tgt := 845) dL_law_32 (by decide) (by decide) (by decide) (by decide) (law_23 hi hL I M h64 nxt)
    · exact ok_tableIn (off := 846) (tgt := 878) dL_law_32 (by decide) (by decide) (by decide) (by decide) (law_24 hi hL I M h64 nxt)
    · exact ok_tableIn (off := 869) (tgt := 901) dL_law_32 (by decide) (by decide) (by decide) (by decide) (law_25 hi hL I M h64 nxt)
    · exact ok_tableIn (off := 912) (tgt := 944) dL_law_32 (by decide) (by decide) (by decide) (by decide) (law_26 hi hL I M h64 nxt)
    · exact ok_tableIn (off := 926) (tgt := 958) dL_law_32 (by decide) (by decide) (by decide) (by decide) (law_27 hi hL I M h64 nxt)
    · exact ok_tableIn (off := 959) (tgt := 991) dL_law_32 (by decide) (by decide) (by decide) (by decide) (law_28 hi hL I M h64 nxt)
    · exact ok_tableIn (off := 982) (tgt := 1014) dL_law_32 (by decide) (by decide) (by decide) (by decide) (law_29 hi hL I M h64 nxt)
    · exact ok_tableIn (off := 995) (tgt := 1027) dL_law_32 (by decide) (by decide) (by decide) (by decide) (law_30 hi hL I M h64 nxt)
    · exact ok_tableIn (off := 1018) (tgt := 1050) dL_law_32 (by decide) (by decide) (by decide) (by decide) (law_31 hi hL I M h64 nxt)
def hE : mH := (0, fun _ => .inr (0, []))
theorem law_begin (hL : Ls ≤ 2560) : Ok g ML_law (jL g b Ls xs) 0 [some (.retAddr b), none, none, none] [] hE 0 0 := by
  refine okC_new (A := 0) (B := 1) (ci := 4) (r := (RX4, TX4, 11)) (fs := nfX4) rfl rfl tyX4 dL_law_0 rfl inX4 tyX4_ok nw_L_7 nfX4_ok nfX4_sv ⟨by decide, by decide⟩ (fun h1 n1 z1 e1 => ?_)
  refine ok_dup dL_law_3 rfl ?_
  refine call_X4_init dL_law_4 lk_L_9 ⟨by decide, by decide, by decide⟩ (Nat.le_of_ble_eq_true rfl) ?_
  refine c_X4_init z1 e1 (fun h2 z2 I2 => ?_)
  dsimp only [m_push]
  refine ok_astore_n dL_law_7 (st_4_1 rfl) (Nat.le_of_ble_eq_true rfl) rfl ?_
  refine okC_new (A := 46) (B := 47) (ci := 5) (r := (RX5, TX5, 24)) (fs := nfX5) z2 rfl tyX5 dL_law_8 rfl inX5 tyX5_ok nw_L_10 nfX5_ok nfX5_sv ⟨by decide, by decide⟩ (fun h3 n3 z3 e3 => ?_)
  refine ok_dup dL_law_11 rfl ?_
  refine call_X5_init dL_law_12 lk_L_12 ⟨by decide, by decide, by decide⟩ (Nat.le_of_ble_eq_true rfl) ?_
  refine c_X5_init z3 e3 (fun h4 z4 w4 M4 => ?_)
  dsimp only [m_push]
  refine ok_astore_n dL_law_15 (st_4_2 rfl) (Nat.le_of_ble_eq_true rfl) rfl ?_
  refine ok_iconst (v := nI 0) dL_law_16 (by decide) ?_
  refine ok_istore_n dL_law_17 (st_4_3 rfl) (Nat.le_of_ble_eq_true rfl) ?_
  have w24 : hw [46] h2 h4 := (n3.w).tr w4 (by simp)
  have I4 : IX h4 S0 := by
    obtain ⟨e0, hr, i1, i2, i3, i4, i5, i6, i7, i7', i8⟩ := I2
    exact ⟨w24.at (by decide) e0, hr, i1.w w24 (by decide), i2.w w24 (by decide), i3.w w24 (by decide), i4.w w24 (by decide) (by decide), i5.w w24 (fun q l1 l2 => by simp <;> omega), i6.w w24 (by decide) (by decide), i7.w w24 (by decide) (by decide), i7'.w w24 (by decide) (by decide), i8.w w24 (fun q l1 l2 => by simp <;> omega)⟩
  refine ok_widen (uc' := 64 + 8 * 0) (us' := 12374 + 2706 * 0) (by decide) (by decide) ?_
  exact law_loop hL 513 0 S0 h4 (by omega) I4 M4 (by omega)
end LAWC
theorem inT (w : Cond) (i : Nat) (h : lw_tbl[i]? = some w) : w ∈ lw_tbl := List.mem_of_getElem? h
theorem m_in_lw {ws : List Cond} (h : m_in ws) : ∀ w ∈ ws, w ∈ lw_tbl := fun w hw => (List.mem_filter.mp (h w hw)).1
theorem m_tb_lw {w : Cond} (h : w ∈ m_tb) : w ∈ lw_tbl := (List.mem_filter.mp h).1
theorem k_arrC {s : State} {args : Array Value} {ty : FieldType} (hne : ∀ C, ty ≠ .object C) (h : (Cond.arrayClass ty).before args s = true) : ∃ cA, ArrOfT s cA ty ∧ va_RA s cA ty := by
  obtain ⟨cA, kA, comp, h1, h2, h3⟩ := Cond.arrayClass_spec h
  refine ⟨cA, fun n z => ⟨fun k h => (by cases h), kA, h2, comp, h3⟩, ?_⟩
  cases ty with
  | object C => exact absurd rfl (hne C)
  | _ => exact h1
theorem k_arrO {s : State} {args : Array Value} {C : String} (h : (Cond.arrayOver (.object C)).before args s = true) : ∃ cA, ArrOfT s cA (.object C) ∧ va_RA s cA (.object C) := by
  obtain ⟨comp, cA, kA, h1, h2, h3, h4, h5⟩ := Cond.arrayOver_spec h
  exact ⟨cA, fun n z => ⟨fun k h => (by cases h), kA, h3, comp, h4⟩, kA, comp, h3, h4, h1, h5⟩
theorem k_world {s : State} {args : Array Value} (l : Launch) (hts : ∀ w ∈ lw_tbl, w.before args s = true) : ∃ (g : mG), g.1 = l ∧ g.2.1 = s.heap.size ∧ va_K (m_D g) m_cl (m_tys g) s := by
  obtain ⟨c0, i0, k0⟩ := u_known (C := RX0) (T := TX0) (N := 11) (n := 11) hts (m_in_lw inX0) (hts _ (m_tb_lw nw_X4_37.2.1))
  obtain ⟨c1, i1, k1⟩ := u_known (C := RX1) (T := TX1) (N := 1) (n := 1) hts (m_in_lw inX1) (hts _ (m_tb_lw nw_X4_23.2.1))
  obtain ⟨c2, i2, k2⟩ := u_known (C := RX2) (T := TX2) (N := 8) (n := 8) hts (m_in_lw inX2) (hts _ (m_tb_lw nw_X4_30.2.1))
  obtain ⟨c3, i3, k3⟩ := u_known (C := RX3) (T := TX3) (N := 3) (n := 3) hts (m_in_lw inX3) (hts _ (m_tb_lw nw_X4_9.2.1))
  obtain ⟨c4, i4, k4⟩ := u_known (C := RX4) (T := TX4) (N := 11) (n := 11) hts (m_in_lw inX4) (hts _ (m_tb_lw nw_L_7.2.1))
  obtain ⟨c5, i5, k5⟩ := u_known (C := RX5) (T := TX5) (N := 24) (n := 24) hts (m_in_lw inX5) (hts _ (m_tb_lw nw_L_10.2.1))
  obtain ⟨a0, p0, r0⟩ := k_arrC (ty := .int) (fun C h => by cases h) (hts _ (m_tb_lw ac_int))
  obtain ⟨a1, p1, r1⟩ := k_arrC (ty := .long) (fun C h => by cases h) (hts _ (m_tb_lw ac_long))
  obtain ⟨a2, p2, r2⟩ := k_arrC (ty := .boolean) (fun C h => by cases h) (hts _ (m_tb_lw ac_boolean))
  obtain ⟨a3, p3, r3⟩ := k_arrO (C := RX3) (hts _ (inT (.arrayOver (.object RX3)) 55 (by decide +kernel)))
  obtain ⟨a4, p4, r4⟩ := k_arrO (C := RX0) (hts _ (inT (.arrayOver (.object RX0)) 123 (by decide +kernel)))
  refine ⟨(l, s.heap.size, fun k => if k = 0 then c0 else if k = 1 then c1 else if k = 2 then c2 else if k = 3 then c3 else if k = 4 then c4 else c5, fun k => if k = 0 then i0 else if k = 1 then i1 else if k = 2 then i2 else if k = 3 then i3 else if k = 4 then i4 else i5, fun ty => if ty = .int then a0 else if ty = .long then a1 else if ty = .boolean then a2 else if ty = .object RX3 then a3 else a4), rfl, rfl, ?_, ?_⟩
  · intro k q hq
    match k, hq with
    | 0, hq => cases hq; exact k0
    | 1, hq => cases hq; exact k1
    | 2, hq => cases hq; exact k2
    | 3, hq => cases hq; exact k3
    | 4, hq => cases hq; exact k4
    | 5, hq => cases hq; exact k5
    | k + 6, hq => simp [m_cl] at hq
  · intro k q hq
    match k, hq with
    | 0, hq => cases hq; exact ⟨p0, r0⟩
    | 1, hq => cases hq; exact ⟨p1, r1⟩
    | 2, hq => cases hq; exact ⟨p2, r2⟩
    | 3, hq => cases hq; exact ⟨p3, r3⟩
    | 4, hq => cases hq; exact ⟨p4, r4⟩
    | k + 5, hq => simp [m_tys, m_ty5] at hq
theorem k_X {s : State} {args : Array Value} (hts : ∀ w ∈ lw_tbl, w.before args s = true) : m_X s :=
  ⟨va_AO.of (hts _ (inT (.arrayOver (.object RX3)) 55 (by decide +kernel))), va_AO.of (hts _ (inT (.arrayOver (.object RX0)) 123 (by decide +kernel))), va_Nw.of rfl (hts _ (inT (.methodLinkNest RX2 26 yX3_init RX4) 76 (by decide +kernel))), va_Nw.of rfl (hts _ (inT (.methodLinkNest RX4 43 yX3_init RX4) 124 (by decide +kernel))), va_Nw.of rfl (hts _ (inT (.castable "[I" "java/lang/Cloneable") 337 (by decide +kernel)))⟩
theorem whole_start {p : Program} {e : Env} {s : State} {m : MethodId} {below : List Frame} {meth : Method} {c : Code} (l : Launch) {b L : Nat} {xs : Nat → Int32} (hL : L ≤ 2560) (C0 : lw_At p s m meth c b L xs) : W p l e room_1 s m #[Value.ref b] below meth c s.heap [] 0 0 (lw_Z below #[Value.ref b] s) (entryFrame m ([Value.ref b] : List Value).toArray 4) := by
  obtain ⟨hx, hb, hr, hml, hown, hts, hX, hbl, hlocks, hgv⟩ := id C0
  obtain ⟨g, hg1, hg2, hK⟩ := k_world l hts
  have F : m_Fx g ML_law p room_1 s m #[Value.ref b] meth c := ⟨hx, hb, hml, hr, hlocks, hown, fun w hw => hts w (m_tb_lw hw), fun h => absurd h (by decide), rfl, hK, by rw [hg2]; exact Nat.le_refl _, k_X hts⟩
  have hl := lv_entry ([.ref b]) (n := 4) (Nat.le_of_ble_eq_true rfl)
  rw [lg_entry_eq]
  generalize (lg_sl ([.ref b]) ++ List.replicate (4 - (lg_sl ([.ref b])).length) Slot.unset).toArray = ls at hl ⊢
  have hl : lv_has ls 4 [(0, .ref b)] := hl
  have h0 := law_begin (g := g) (b := b) (xs := xs) hL p e room_1 s m #[Value.ref b] below meth c F ⟨hX, by rw [hg2]; exact hbl, by rw [hg2]; exact Nat.le_refl _, rfl⟩ ls s.heap [] ⟨hl.1, hl.2.1, fun i v hv => ?_⟩ ⟨fun k q hq => ?_, by rw [hg2]; rfl⟩ va_S.rf
  · rw [hg1] at h0
    exact h0
  · cases i with
    | zero =>
      have e : v = .retAddr b := (Option.some.inj hv).symm
      subst e
      exact hl.2.2 (0, .ref b) List.mem_cons_self
    | succ i =>
      cases i with
      | zero => cases hv
      | succ i =>
        cases i with
        | zero => cases hv
        | succ i =>
          cases i with
          | zero => cases hv
          | succ i => cases hv
  · have : m_W g hE = [] := rfl
    rw [this] at hq
    simp at hq
