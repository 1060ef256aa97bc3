/-! ===== the second program's working row ===== -/
def Rm (h : mH) (l : List Nat) : Prop := ∃ F, hc h 51 = some (aI 20 F) ∧ arr F l
theorem Rm.at {h h' : mH} {A : List Nat} {l : List Nat} (r : Rm h l) (x : hx A h h') (n : 51 ∉ A) : Rm h' l := by obtain ⟨F, e, f⟩ := r; exact ⟨F, x.at n e, f⟩
def seN (r : List Nat) : Nat → List Nat
  | 0 => []
  | k + 1 => put0 (r.getD k 0) (seN r k)
def gvS (q : Nat) (r : List Nat) : Nat → Nat
  | 0 => 0
  | i + 1 => gvS q r i + mn q (r.getD i 0)
def gvF (q e : Nat) (r : List Nat) : List Nat := (List.range r.length).map (fun x => if x < e then r.getD x 0 - mn q (r.getD x 0) else r.getD x 0) ++ [gvS q r e]
def lsF (r : List Nat) (t : Nat) : List Nat := (List.range r.length).map (fun x => if x + 1 = r.length then r.getD x 0 - t else if x < t then r.getD x 0 + 1 else r.getD x 0)
def goR (ru : Nat) (r : List Nat) : List Nat := if ru = 0 then gvF 1 r.length r else if ru = 1 then gvF 1 1 r else if ru = 2 then gvF 2 r.length r else lsF r (mn (r.length - 1) (r.getD (r.length - 1) 0))
def goM (ru : Nat) (r : List Nat) : List Nat := if r.length = 0 ∨ (ru = 3 ∧ r.length = 1) then r else seN (goR ru r) (goR ru r).length
theorem mr_get {n : Nat} {f : Nat → Nat} {x : Nat} (hx : x < n) : ((List.range n).map f).getD x 0 = f x := by
  simp [List.getD_eq_getElem?_getD, hx]
theorem ap_get1 {l : List Nat} {v x : Nat} (hx : x < l.length) : (l ++ [v]).getD x 0 = l.getD x 0 := by
  simp [List.getD_eq_getElem?_getD, List.getElem?_append, hx]
theorem ap_get2 {l : List Nat} {v : Nat} : (l ++ [v]).getD l.length 0 = v := by
  simp [List.getD_eq_getElem?_getD, List.getElem?_append]
theorem gvF_len (q e : Nat) (r : List Nat) : (gvF q e r).length = r.length + 1 := by simp [gvF]
theorem lsF_len (r : List Nat) (t : Nat) : (lsF r t).length = r.length := by simp [lsF]
theorem seN_ok {r : List Nat} (hs : r.sum ≤ 18) : ∀ k, k ≤ r.length → okl (seN r k) ∧ (seN r k).sum = tsum r k ∧ (seN r k).length ≤ k
  | 0, _ => ⟨okl_nil, by simp [seN, tsum], by simp [seN]⟩
  | k + 1, hk => by
    obtain ⟨e1, e2, e3⟩ := seN_ok hs k (by omega)
    have t1 := tsum_succ r k (by omega)
    have t2 := tsum_le r (k + 1)
    refine ⟨okl_put0 e1 (by omega), ?_, ?_⟩
    · show (put0 _ _).sum = _
      rw [put0_sum]; omega
    · show (put0 _ _).length ≤ _
      unfold put0
      split
      · omega
      · rw [ins_len]; omega
theorem seN_len (r : List Nat) : ∀ k, (seN r k).length ≤ k
  | 0 => Nat.le_refl _
  | k + 1 => by
    have := seN_len r k
    show (put0 _ _).length ≤ _
    unfold put0
    split
    · omega
    · rw [ins_len]; omega
theorem gvS_ge (q : Nat) (l : List Nat) : ∀ i, gvS q l i = (geN q l i).2
  | 0 => rfl
  | i + 1 => by show gvS q l i + _ = (geN q l i).2 + _; rw [gvS_ge q l i]
theorem gvF_get (q e : Nat) (r : List Nat) {x : Nat} (hx : x < r.length) : (gvF q e r).getD x 0 = if x < e then r.getD x 0 - mn q (r.getD x 0) else r.getD x 0 := by
  unfold gvF
  rw [ap_get1 (by rw [List.length_map, List.length_range]; exact hx), mr_get hx]
theorem gvF_last (q e : Nat) (r : List Nat) : (gvF q e r).getD r.length 0 = gvS q r e := by
  have := ap_get2 (l := (List.range r.length).map (fun x => if x < e then r.getD x 0 - mn q (r.getD x 0) else r.getD x 0)) (v := gvS q r e)
  rw [List.length_map, List.length_range] at this
  exact this
theorem lsF_get (r : List Nat) (t : Nat) {x : Nat} (hx : x < r.length) : (lsF r t).getD x 0 = if x + 1 = r.length then r.getD x 0 - t else if x < t then r.getD x 0 + 1 else r.getD x 0 := by
  unfold lsF
  rw [mr_get hx]
theorem se_ge (q : Nat) (l : List Nat) : ∀ i, i ≤ l.length → seN (gvF q l.length l) i = (geN q l i).1
  | 0, _ => rfl
  | i + 1, hi => by
    show put0 ((gvF q l.length l).getD i 0) (seN (gvF q l.length l) i) = put0 _ (geN q l i).1
    rw [se_ge q l i (by omega), gvF_get _ _ _ (by omega), if_pos (by omega)]
theorem se_ge' (q : Nat) (l : List Nat) : seN (gvF q l.length l) (l.length + 1) = ge q l := by
  show put0 ((gvF q l.length l).getD l.length 0) (seN (gvF q l.length l) l.length) = _
  rw [gvF_last, se_ge q l _ (Nat.le_refl _), gvS_ge]
  rfl
theorem mn_1 {x : Nat} (h : 1 ≤ x) : mn 1 x = 1 := by unfold mn; rw [if_neg (by omega)]
theorem put0_pos {m : Nat} {l : List Nat} (h : 1 ≤ m) : put0 m l = ins m l := by unfold put0; rw [if_neg (by omega)]
theorem se_gg {l : List Nat} (h : okl l) (h0 : 0 < l.length) : ∀ i, i + 1 ≤ l.length → seN (gvF 1 1 l) (i + 1) = ppN l 1 (put0 (l.getD 0 0 - 1) []) i
  | 0, _ => by
    have hp := h.2.1 _ (gd_mem l 0 h0)
    show put0 ((gvF 1 1 l).getD 0 0) [] = put0 (l.getD 0 0 - 1) []
    rw [gvF_get _ _ _ h0, if_pos (by omega), mn_1 hp]
  | i + 1, hi => by
    have hp := h.2.1 _ (gd_mem l (i + 1) (by omega))
    show put0 ((gvF 1 1 l).getD (i + 1) 0) (seN (gvF 1 1 l) (i + 1)) = ins (l.getD (1 + i) 0) _
    rw [se_gg h h0 i (by omega), gvF_get _ _ _ (by omega), if_neg (by omega), put0_pos hp, Nat.add_comm 1 i]
theorem se_gg' {l : List Nat} (h : okl l) (h0 : 0 < l.length) : seN (gvF 1 1 l) (l.length + 1) = gg l := by
  have hp := h.2.1 _ (gd_mem l 0 h0)
  show put0 ((gvF 1 1 l).getD l.length 0) (seN (gvF 1 1 l) l.length) = _
  have e := se_gg h h0 (l.length - 1) (by omega)
  rw [show l.length - 1 + 1 = l.length by omega] at e
  unfold gg
  rw [gvF_last, e, if_neg (by omega)]
  show put0 (0 + mn 1 (l.getD 0 0)) _ = _
  rw [mn_1 hp, put0_pos (by omega)]
theorem glN_2 (l : List Nat) (f : Nat) : ∀ i, (glN l f i).2 = f - i
  | 0 => rfl
  | i + 1 => by
    show (glN l f i).2 - (if (glN l f i).2 = 0 then 0 else 1) = _
    rw [glN_2 l f i]
    split <;> omega
theorem se_gl {l : List Nat} (h : okl l) (h0 : 0 < l.length) : ∀ i, i + 1 ≤ l.length → seN (lsF l (mn (l.length - 1) (l.getD (l.length - 1) 0))) i = (glN l (l.getD (l.length - 1) 0) i).1
  | 0, _ => rfl
  | i + 1, hi => by
    have hp := h.2.1 _ (gd_mem l i (by omega))
    show put0 ((lsF l (mn (l.length - 1) (l.getD (l.length - 1) 0))).getD i 0) (seN (lsF l (mn (l.length - 1) (l.getD (l.length - 1) 0))) i) = ins (l.getD i 0 + (if (glN l (l.getD (l.length - 1) 0) i).2 = 0 then 0 else 1)) _
    rw [se_gl h h0 i (by omega), lsF_get _ _ (by omega), if_neg (by omega), glN_2]
    by_cases c : i < mn (l.length - 1) (l.getD (l.length - 1) 0)
    · rw [if_pos c, put0_pos (by omega), if_neg]
      unfold mn at c
      split at c <;> omega
    · rw [if_neg c, put0_pos hp, if_pos, Nat.add_zero]
      unfold mn at c
      split at c <;> omega
theorem se_gl' {l : List Nat} (h : okl l) (h0 : 0 < l.length) : seN (lsF l (mn (l.length - 1) (l.getD (l.length - 1) 0))) l.length = gl l := by
  obtain ⟨n, hn⟩ : ∃ n, l.length = n + 1 := ⟨l.length - 1, by omega⟩
  have e := se_gl h h0 n (by omega)
  have e2 := lsF_get l (mn (l.length - 1) (l.getD (l.length - 1) 0)) (x := n) (by omega)
  rw [if_pos (by omega)] at e2
  unfold gl
  rw [hn] at e e2 ⊢
  show put0 ((lsF l (mn (n + 1 - 1) (l.getD (n + 1 - 1) 0))).getD n 0) (seN (lsF l (mn (n + 1 - 1) (l.getD (n + 1 - 1) 0))) n) = _
  rw [e, e2, glN_2, Nat.add_sub_cancel]
  congr 1
  unfold mn
  split <;> omega
theorem go_ok {ru : Nat} {l : List Nat} (hr : ru < 4) (h : okl l) : goM ru l = stp ru l ∧ (¬ (l.length = 0 ∨ (ru = 3 ∧ l.length = 1)) → (∀ k, k ≤ (goR ru l).length → okl (seN (goR ru l) k)) ∧ (∀ k, k < (goR ru l).length → (goR ru l).getD k 0 < 2 ^ 31)) := by
  have hs := h.2.2
  have gb := gd_sum l
  have gv : ∀ q e, e ≤ l.length → ∀ k, k < (gvF q e l).length → (gvF q e l).getD k 0 < 2 ^ 31 := by
    intro q e he k hk
    rw [gvF_len] at hk
    by_cases c : k = l.length
    · rw [c, gvF_last, gvS_ge]
      have := (geN_inv q h e he).2
      have := tsum_le l e
      omega
    · rw [gvF_get _ _ _ (by omega)]
      have := gb k
      split <;> omega
  have kge : ∀ q, okl (ge q l) := fun q => by
    obtain ⟨e1, e2⟩ := geN_inv q h l.length (Nat.le_refl _)
    rw [tsum_len] at e2
    exact okl_put0 e1 (by omega)
  have oge : ∀ q k, k ≤ (gvF q l.length l).length → okl (seN (gvF q l.length l) k) := by
    intro q k hk
    rw [gvF_len] at hk
    by_cases c : k = l.length + 1
    · rw [c, se_ge']; exact kge q
    · rw [se_ge q l k (by omega)]
      exact (geN_inv q h k (by omega)).1
  have z0 : l.length = 0 → stp ru l = l := by
    intro z
    have e0 : l = [] := List.eq_nil_of_length_eq_zero z
    subst e0
    rcases (show ru = 0 ∨ ru = 1 ∨ ru = 2 ∨ ru = 3 by omega) with rfl | rfl | rfl | rfl <;> rfl
  have z1 : ru = 3 ∧ l.length = 1 → stp ru l = l := by
    rintro ⟨rfl, z⟩
    match l, z with
    | [c], _ =>
      have hp := h.2.1 c (by simp)
      show put0 c [] = [c]
      rw [put0_pos hp]; rfl
  by_cases st : l.length = 0 ∨ (ru = 3 ∧ l.length = 1)
  · refine ⟨?_, fun z => absurd st z⟩
    unfold goM
    rw [if_pos st]
    rcases st with z | z
    · exact (z0 z).symm
    · exact (z1 z).symm
  · have h0 : 0 < l.length := by omega
    unfold goM
    rw [if_neg st]
    rcases (show ru = 0 ∨ ru = 1 ∨ ru = 2 ∨ ru = 3 by omega) with rfl | rfl | rfl | rfl
    · refine ⟨?_, fun _ => ⟨oge 1, gv 1 _ (Nat.le_refl _)⟩⟩
      show seN (gvF 1 l.length l) (gvF 1 l.length l).length = ge 1 l
      rw [gvF_len, se_ge']
    · refine ⟨?_, fun _ => ⟨fun k hk => ?_, gv 1 1 (by omega)⟩⟩
      · show seN (gvF 1 1 l) (gvF 1 1 l).length = gg l
        rw [gvF_len, se_gg' h h0]
      · have hk2 : k ≤ (gvF 1 1 l).length := hk
        rw [gvF_len] at hk2
        show okl (seN (gvF 1 1 l) k)
        by_cases c : k = l.length + 1
        · rw [c, se_gg' h h0]
          exact okl_stp (ru := 1) h
        · cases k with
          | zero => exact okl_nil
          | succ k =>
            rw [se_gg h h0 k (by omega)]
            exact (gg_ok h h0).1 k (by omega)
    · refine ⟨?_, fun _ => ⟨oge 2, gv 2 _ (Nat.le_refl _)⟩⟩
      show seN (gvF 2 l.length l) (gvF 2 l.length l).length = ge 2 l
      rw [gvF_len, se_ge']
    · refine ⟨?_, fun _ => ⟨fun k hk => ?_, fun k hk => ?_⟩⟩
      · show seN (lsF l _) (lsF l _).length = gl l
        rw [lsF_len, se_gl' h h0]
      · have hk2 : k ≤ (lsF l (mn (l.length - 1) (l.getD (l.length - 1) 0))).length := hk
        rw [lsF_len] at hk2
        show okl (seN (lsF l (mn (l.length - 1) (l.getD (l.length - 1) 0))) k)
        by_cases c : k = l.length
        · rw [c, se_gl' h h0]
          exact okl_stp (ru := 3) h
        · rw [se_gl h h0 k (by omega)]
          have t1 := tsum_succ l (l.length - 1) (by omega)
          have tl := tsum_len l
          rw [show l.length - 1 + 1 = l.length by omega] at t1
          have mono : ∀ d j, j + d = l.length - 1 → tsum l j ≤ tsum l (l.length - 1) := by
            intro d
            induction d with
            | zero => intro j hj; rw [show j = l.length - 1 by omega]; exact Nat.le_refl _
            | succ d ih => intro j hj; have := ih (j + 1) (by omega); have := tsum_succ l j (by omega); omega
          have := mono (l.length - 1 - k) k (by omega)
          exact (glN_inv h _ k (by omega) (by omega)).1
      · have hk2 : k < (lsF l (mn (l.length - 1) (l.getD (l.length - 1) 0))).length := hk
        rw [lsF_len] at hk2
        show (lsF l (mn (l.length - 1) (l.getD (l.length - 1) 0))).getD k 0 < 2 ^ 31
        have := gb k
        rw [lsF_get _ _ hk2]
        (repeat' split) <;> omega
theorem MI.set51 {h h' : mH} {S : ST} {sz sz' lz : Nat} {li kd : Int32} {l : List Nat} (I : MI h S sz li lz kd) (x : hx [46, 51] h h') (e : hc h' 46 = some (mdo S.2.2.2.1 S.2.2.2.2.2 S.2.2.1 sz' li lz kd)) (c : Rm h' l) : MI h' S sz' li lz kd := by
  obtain ⟨e0, k1, k2, k3, k4, ⟨r1, r2, r3, r4, r5, r6⟩, k6, k7⟩ := I
  obtain ⟨F, c, -⟩ := c
  exact ⟨e, k1.at x (by decide), k2.at x (by decide), k3.at x (by decide), k4.at x (by decide) (by decide), ⟨r1.at x (by decide), ⟨F, c⟩, fun a l1 l2 => (r3 a l1 l2).at x (by simp <;> omega), r4.at x (by decide), fun a l1 l2 => (r5 a l1 l2).at x (by simp <;> omega), r6.at x (by decide)⟩, k6, k7⟩
section MROW
variable {g : mG} {h : mH} {Q : Option Value → mH → Prop} {S : ST} {sz lz : Nat} {li kd : Int32} {fi : Nat} {wk : Int64} {ru : Nat}
theorem l_X5_load {p : Nat} {l : List Nat} {G : Nat → Nat} (hp : p < 12) (hl : okl l) (hG : ∀ i, i < l.length → G (18 * p + i) = l.getD i 0) (k : ∀ h', hx [51] h h' → hc h' 46 = some (mdo fi wk ru l.length li lz kd) → Rm h' l → Q none h') :
    ∀ (d i : Nat) (h1 : mH) (F : Nat → Nat), i + d = l.length → hx [51] h h1 → hc h1 46 = some (mdo fi wk ru l.length li lz kd) → hc h1 49 = some (aI 216 G) → hc h1 51 = some (aI 20 F) → (∀ j, j < i → F j = l.getD j 0) → Ok g MX5_load (m_J g MX5_load Q) 12 [some (.ref 46), some (.int (nI p)), some (.int (nI i))] [] h1 0 0 := by
  have hlen := hl.len
  intro d
  induction d with
  | zero =>
    intro i h1 F hi x1 e0 e9 e51 f
    refine ok_iload_n dX5_load_12 rfl ?_
    refine ok_aload_n dX5_load_13 rfl rfl ?_
    refine ok_get dX5_load_14 fl_X5_94 (by assumption) (by rfl) ?_
    refine okN_icmp_ge (tgt := 43) dX5_load_17 (by decide) (by omega) (by omega) (fun c1 => ?_) (fun c1 => ?_)
    · refine ok_vret dX5_load_43 rfl ⟨Nat.le_of_ble_eq_true rfl, Nat.le_of_ble_eq_true rfl⟩ ?_
      exact k h1 x1 e0 ⟨F, e51, fun j hj => f j (by omega)⟩
    · exact absurd c1 (by omega)
  | succ d ih =>
    intro i h1 F hi x1 e0 e9 e51 f
    refine ok_iload_n dX5_load_12 rfl ?_
    refine ok_aload_n dX5_load_13 rfl rfl ?_
    refine ok_get dX5_load_14 fl_X5_94 (by assumption) (by rfl) ?_
    refine okN_icmp_ge (tgt := 43) dX5_load_17 (by decide) (by omega) (by omega) (fun c1 => ?_) (fun c1 => ?_)
    · exact absurd c1 (by omega)
    · refine ok_aload_n dX5_load_20 rfl rfl ?_
      refine ok_get dX5_load_21 fl_X5_22 (by assumption) (by rfl) ?_
      refine ok_iload_n dX5_load_24 rfl ?_
      refine ok_aload_n dX5_load_25 rfl rfl ?_
      refine ok_get dX5_load_26 fl_X5_16 (by assumption) (by rfl) ?_
      refine ok_bipush (v := nI 18) dX5_load_29 (by decide) ?_
      refine ok_iload_n dX5_load_31 rfl ?_
      first | refine okN_imul dX5_load_32 ?_ | refine ok_imul dX5_load_32 ?_
      refine ok_iload_n dX5_load_33 rfl ?_
      first | refine okN_iadd dX5_load_34 ?_ | refine ok_iadd dX5_load_34 ?_
      first | refine okN_iald dX5_load_35 (by assumption) (by omega) (by decide) ?_ | refine okF_iald dX5_load_35 (by assumption) (by omega) (by omega) ?_ | refine okN_kald dX5_load_35 (by assumption) (by omega) (by decide) ?_
      first | refine okN_iast dX5_load_36 (by assumption) (by omega) (by decide) (fun h2 hx2 he2 => ?_) | refine okC_iast dX5_load_36 (by assumption) (by omega) (by omega) (by omega) (fun h2 hx2 he2 => ?_) | refine okF_iast dX5_load_36 (by assumption) (by omega) (by omega) (fun h2 hx2 he2 => ?_) | refine okN_kast dX5_load_36 (by assumption) (by omega) (by decide) (fun h2 hx2 he2 => ?_)
      refine okN_inc dX5_load_37 rfl (st_3_2 rfl) (Nat.le_of_ble_eq_true rfl) ?_
      refine ok_goto (tgt := 12) dX5_load_40 (by decide) ?_
      refine ih (i + 1) h2 _ (by omega) (x1.tr' hx2) (hx2.at (by decide) e0) (hx2.at (by decide) e9) he2 (fun j hj => ?_)
      by_cases c : j = i
      · rw [c, up_eq, hG i c1]
      · rw [up_ne c, f j (by omega)]
theorem c_X5_load {p : Nat} (I : MI h S sz li lz kd) (hp : p < 12) (ht : S.1 p = true) (k : ∀ h', hx [46, 51] h h' → MI h' S (S.2.1 p).length li lz kd → Rm h' (S.2.1 p) → Q none h') : Ok g MX5_load (m_J g MX5_load Q) 0 [some (.ref 46), some (.int (nI p)), none] [] h 0 0 := by
  obtain ⟨e0, -, ⟨F, e1, f1⟩, ⟨G, e2, g2⟩, -, ⟨-, ⟨F51, e51⟩, -⟩, k6, -⟩ := id I
  refine ok_aload_n dX5_load_0 rfl rfl ?_
  refine ok_aload_n dX5_load_1 rfl rfl ?_
  refine ok_get dX5_load_2 fl_X5_13 (by assumption) (by rfl) ?_
  refine ok_iload_n dX5_load_5 rfl ?_
  first | refine okN_iald dX5_load_6 (by assumption) (by omega) (by decide) ?_ | refine okF_iald dX5_load_6 (by assumption) (by omega) (by omega) ?_ | refine okN_kald dX5_load_6 (by assumption) (by omega) (by decide) ?_
  rw [f1 p hp, if_pos ht]
  refine okR_put dX5_load_7 fl_X5_94 (by assumption) (Nat.le_of_ble_eq_true rfl) (fun _ => ⟨rfl, rfl⟩) set_24_8 (fun h1 hx1 he1 => ?_)
  refine ok_iconst (v := nI 0) dX5_load_10 (by decide) ?_
  refine ok_istore_n dX5_load_11 (st_3_2 rfl) (Nat.le_of_ble_eq_true rfl) ?_
  refine l_X5_load (h := h1) hp (k6 p hp ht) (g2 p hp ht) (fun h' x e r => ?_) (S.2.1 p).length 0 h1 F51 (by omega) hx.rf he1 (hx1.at (by decide) e2) (hx1.at (by decide) e51) (fun j hj => by omega)
  have xx : hx [46, 51] h h' := hx1.tr x (by simp) (by simp)
  exact k h' xx (I.set51 xx e r) r
theorem l_X5_loadListed {p : Nat} {l : List Nat} {G : Nat → Nat} (hp : p < 385) (hl : okl l) (hG : ∀ i, i < l.length → G (18 * p + i) = l.getD i 0) (k : ∀ h', hx [51] h h' → hc h' 46 = some (mdo fi wk ru l.length li lz kd) → Rm h' l → Q none h') :
    ∀ (d i : Nat) (h1 : mH) (F : Nat → Nat), i + d = l.length → hx [51] h h1 → hc h1 46 = some (mdo fi wk ru l.length li lz kd) → hc h1 52 = some (aI 6930 G) → hc h1 51 = some (aI 20 F) → (∀ j, j < i → F j = l.getD j 0) → Ok g MX5_loadListed (m_J g MX5_loadListed Q) 12 [some (.ref 46), some (.int (nI p)), some (.int (nI i))] [] h1 0 0 := by
  have hlen := hl.len
  intro d
  induction d with
  | zero =>
    intro i h1 F hi x1 e0 e9 e51 f
    refine ok_iload_n dX5_loadListed_12 rfl ?_
    refine ok_aload_n dX5_loadListed_13 rfl rfl ?_
    refine ok_get dX5_loadListed_14 fl_X5_94 (by assumption) (by rfl) ?_
    refine okN_icmp_ge (tgt := 43) dX5_loadListed_17 (by decide) (by omega) (by omega) (fun c1 => ?_) (fun c1 => ?_)
    · refine ok_vret dX5_loadListed_43 rfl ⟨Nat.le_of_ble_eq_true rfl, Nat.le_of_ble_eq_true rfl⟩ ?_
      exact k h1 x1 e0 ⟨F, e51, fun j hj => f j (by omega)⟩
    · exact absurd c1 (by omega)
  | succ d ih =>
    intro i h1 F hi x1 e0 e9 e51 f
    refine ok_iload_n dX5_loadListed_12 rfl ?_
    refine ok_aload_n dX5_loadListed_13 rfl rfl ?_
    refine ok_get dX5_loadListed_14 fl_X5_94 (by assumption) (by rfl) ?_
    refine okN_icmp_ge (tgt := 43) dX5_loadListed_17 (by decide) (by omega) (by omega) (fun c1 => ?_) (fun c1 => ?_)
    · exact absurd c1 (by omega)
    · refine ok_aload_n dX5_loadListed_20 rfl rfl ?_
      refine ok_get dX5_loadListed_21 fl_X5_22 (by assumption) (by rfl) ?_
      refine ok_iload_n dX5_loadListed_24 rfl ?_
      refine ok_aload_n dX5_loadListed_25 rfl rfl ?_
      refine ok_get dX5_loadListed_26 fl_X5_29 (by assumption) (by rfl) ?_
      refine ok_bipush (v := nI 18) dX5_loadListed_29 (by decide) ?_
      refine ok_iload_n dX5_loadListed_31 rfl ?_
      first | refine okN_imul dX5_loadListed_32 ?_ | refine ok_imul dX5_loadListed_32 ?_
      refine ok_iload_n dX5_loadListed_33 rfl ?_
      first | refine okN_iadd dX5_loadListed_34 ?_ | refine ok_iadd dX5_loadListed_34 ?_
      first | refine okN_iald dX5_loadListed_35 (by assumption) (by omega) (by decide) ?_ | refine okF_iald dX5_loadListed_35 (by assumption) (by omega) (by omega) ?_ | refine okN_kald dX5_loadListed_35 (by assumption) (by omega) (by decide) ?_
      first | refine okN_iast dX5_loadListed_36 (by assumption) (by omega) (by decide) (fun h2 hx2 he2 => ?_) | refine okC_iast dX5_loadListed_36 (by assumption) (by omega) (by omega) (by omega) (fun h2 hx2 he2 => ?_) | refine okF_iast dX5_loadListed_36 (by assumption) (by omega) (by omega) (fun h2 hx2 he2 => ?_) | refine okN_kast dX5_loadListed_36 (by assumption) (by omega) (by decide) (fun h2 hx2 he2 => ?_)
      refine okN_inc dX5_loadListed_37 rfl (st_3_2 rfl) (Nat.le_of_ble_eq_true rfl) ?_
      refine ok_goto (tgt := 12) dX5_loadListed_40 (by decide) ?_
      refine ih (i + 1) h2 _ (by omega) (x1.tr' hx2) (hx2.at (by decide) e0) (hx2.at (by decide) e9) he2 (fun j hj => ?_)
      by_cases c : j = i
      · rw [c, up_eq, hG i c1]
      · rw [up_ne c, f j (by omega)]
theorem c_X5_loadListed {n p : Nat} {F52 F53 : Nat → Nat} (e0 : hc h 46 = some (mdo fi wk ru sz li lz kd)) (e52 : hc h 52 = some (aI 6930 F52)) (e53 : hc h 53 = some (aI 385 F53)) (r51 : cI h 51 20) (hL : Lst F52 F53 n) (hn : n < 19) (hp : p < cap n n) (k : ∀ h', hx [46, 51] h h' → hc h' 46 = some (mdo fi wk ru (wr n p).length li lz kd) → Rm h' (wr n p) → Q none h') : Ok g MX5_loadListed (m_J g MX5_loadListed Q) 0 [some (.ref 46), some (.int (nI p)), none] [] h 0 0 := by
  obtain ⟨F51, e51⟩ := r51
  obtain ⟨l1, l2⟩ := hL p hp
  have cl := cap_lt hn hn
  have ol := wr_ok hn hp
  refine ok_aload_n dX5_loadListed_0 rfl rfl ?_
  refine ok_aload_n dX5_loadListed_1 rfl rfl ?_
  refine ok_get dX5_loadListed_2 fl_X5_32 (by assumption) (by rfl) ?_
  refine ok_iload_n dX5_loadListed_5 rfl ?_
  first | refine okN_iald dX5_loadListed_6 (by assumption) (by omega) (by decide) ?_ | refine okF_iald dX5_loadListed_6 (by assumption) (by omega) (by omega) ?_ | refine okN_kald dX5_loadListed_6 (by assumption) (by omega) (by decide) ?_
  rw [l1]
  refine okR_put dX5_loadListed_7 fl_X5_94 (by assumption) (Nat.le_of_ble_eq_true rfl) (fun _ => ⟨rfl, rfl⟩) set_24_8 (fun h1 hx1 he1 => ?_)
  refine ok_iconst (v := nI 0) dX5_loadListed_10 (by decide) ?_
  refine ok_istore_n dX5_loadListed_11 (st_3_2 rfl) (Nat.le_of_ble_eq_true rfl) ?_
  refine l_X5_loadListed (h := h1) (by omega) ol l2 (fun h' x e r => ?_) (wr n p).length 0 h1 F51 (by omega) hx.rf he1 (hx1.at (by decide) e52) (hx1.at (by decide) e51) (fun j hj => by omega)
  exact k h' (hx1.tr x (by simp) (by simp)) e r
theorem l_X5_keep {p : Nat} {l : List Nat} {G0 F : Nat → Nat} (hp : p < 12) (hl : okl l) (hF : arr F l) (k : ∀ h' G, hx [49] h h' → hc h' 49 = some (aI 216 G) → (∀ x, (x < 18 * p ∨ 18 * p + 18 ≤ x) → G x = G0 x) → (∀ i, i < l.length → G (18 * p + i) = l.getD i 0) → Q none h') :
    ∀ (d i : Nat) (h1 : mH) (G : Nat → Nat), i + d = l.length → hx [49] h h1 → hc h1 46 = some (mdo fi wk ru l.length li lz kd) → hc h1 49 = some (aI 216 G) → hc h1 51 = some (aI 20 F) → (∀ x, (x < 18 * p ∨ 18 * p + 18 ≤ x) → G x = G0 x) → (∀ j, j < i → G (18 * p + j) = l.getD j 0) → Ok g MX5_keep (m_J g MX5_keep Q) 12 [some (.ref 46), some (.int (nI p)), some (.int (nI i))] [] h1 0 0 := by
  have hlen := hl.len
  intro d
  induction d with
  | zero =>
    intro i h1 G hi x1 e0 e9 e51 o f
    refine ok_iload_n dX5_keep_12 rfl ?_
    refine ok_aload_n dX5_keep_13 rfl rfl ?_
    refine ok_get dX5_keep_14 fl_X5_94 (by assumption) (by rfl) ?_
    refine okN_icmp_ge (tgt := 43) dX5_keep_17 (by decide) (by omega) (by omega) (fun c1 => ?_) (fun c1 => ?_)
    · refine ok_vret dX5_keep_43 rfl ⟨Nat.le_of_ble_eq_true rfl, Nat.le_of_ble_eq_true rfl⟩ ?_
      exact k h1 G x1 e9 o (fun j hj => f j (by omega))
    · exact absurd c1 (by omega)
  | succ d ih =>
    intro i h1 G hi x1 e0 e9 e51 o f
    refine ok_iload_n dX5_keep_12 rfl ?_
    refine ok_aload_n dX5_keep_13 rfl rfl ?_
    refine ok_get dX5_keep_14 fl_X5_94 (by assumption) (by rfl) ?_
    refine okN_icmp_ge (tgt := 43) dX5_keep_17 (by decide) (by omega) (by omega) (fun c1 => ?_) (fun c1 => ?_)
    · exact absurd c1 (by omega)
    · refine ok_aload_n dX5_keep_20 rfl rfl ?_
      refine ok_get dX5_keep_21 fl_X5_16 (by assumption) (by rfl) ?_
      refine ok_bipush (v := nI 18) dX5_keep_24 (by decide) ?_
      refine ok_iload_n dX5_keep_26 rfl ?_
      first | refine okN_imul dX5_keep_27 ?_ | refine ok_imul dX5_keep_27 ?_
      refine ok_iload_n dX5_keep_28 rfl ?_
      first | refine okN_iadd dX5_keep_29 ?_ | refine ok_iadd dX5_keep_29 ?_
      refine ok_aload_n dX5_keep_30 rfl rfl ?_
      refine ok_get dX5_keep_31 fl_X5_22 (by assumption) (by rfl) ?_
      refine ok_iload_n dX5_keep_34 rfl ?_
      first | refine okN_iald dX5_keep_35 (by assumption) (by omega) (by decide) ?_ | refine okF_iald dX5_keep_35 (by assumption) (by omega) (by omega) ?_ | refine okN_kald dX5_keep_35 (by assumption) (by omega) (by decide) ?_
      first | refine okN_iast dX5_keep_36 (by assumption) (by omega) (by decide) (fun h2 hx2 he2 => ?_) | refine okC_iast dX5_keep_36 (by assumption) (by omega) (by omega) (by omega) (fun h2 hx2 he2 => ?_) | refine okF_iast dX5_keep_36 (by assumption) (by omega) (by omega) (fun h2 hx2 he2 => ?_) | refine okN_kast dX5_keep_36 (by assumption) (by omega) (by decide) (fun h2 hx2 he2 => ?_)
      refine okN_inc dX5_keep_37 rfl (st_3_2 rfl) (Nat.le_of_ble_eq_true rfl) ?_
      refine ok_goto (tgt := 12) dX5_keep_40 (by decide) ?_
      refine ih (i + 1) h2 _ (by omega) (x1.tr' hx2) (hx2.at (by decide) e0) he2 (hx2.at (by decide) e51) (fun x hx3 => ?_) (fun j hj => ?_)
      · rw [up_ne (by omega)]; exact o x hx3
      · by_cases c : j = i
        · rw [c, up_eq, hF i c1]
        · rw [up_ne (by omega), f j (by omega)]
theorem c_X5_keep {p : Nat} {l : List Nat} (I : MI h S l.length li lz kd) (R : Rm h l) (ol : okl l) (hp : p < 12) (k : ∀ h', hx [48, 49] h h' → MI h' (s_TP S p l) l.length li lz kd → Q none h') : Ok g MX5_keep (m_J g MX5_keep Q) 0 [some (.ref 46), some (.int (nI p)), none] [] h 0 0 := by
  obtain ⟨e0, -, ⟨F, e1, f1⟩, ⟨G, e2, g2⟩, -, -, k6, -⟩ := id I
  obtain ⟨F51, e51, r51⟩ := R
  refine ok_aload_n dX5_keep_0 rfl rfl ?_
  refine ok_get dX5_keep_1 fl_X5_13 (by assumption) (by rfl) ?_
  refine ok_iload_n dX5_keep_4 rfl ?_
  refine ok_aload_n dX5_keep_5 rfl rfl ?_
  refine ok_get dX5_keep_6 fl_X5_94 (by assumption) (by rfl) ?_
  first | refine okN_iast dX5_keep_9 (by assumption) (by omega) (by decide) (fun h1 hx1 he1 => ?_) | refine okC_iast dX5_keep_9 (by assumption) (by omega) (by omega) (by omega) (fun h1 hx1 he1 => ?_) | refine okF_iast dX5_keep_9 (by assumption) (by omega) (by omega) (fun h1 hx1 he1 => ?_) | refine okN_kast dX5_keep_9 (by assumption) (by omega) (by decide) (fun h1 hx1 he1 => ?_)
  refine ok_iconst (v := nI 0) dX5_keep_10 (by decide) ?_
  refine ok_istore_n dX5_keep_11 (st_3_2 rfl) (Nat.le_of_ble_eq_true rfl) ?_
  refine l_X5_keep (h := h1) (G0 := G) hp ol r51 (fun h' G' x e o r => ?_) l.length 0 h1 G (by omega) hx.rf (hx1.at (by decide) e0) (hx1.at (by decide) e2) (hx1.at (by decide) e51) (fun _ _ => rfl) (fun j hj => by omega)
  have xx : hx [48, 49] h h' := hx1.tr x (by simp) (by simp)
  refine k h' xx (I.setTP xx (by decide) ⟨_, x.at (by decide) he1, fun q hq => ?_⟩ ⟨G', e, fun q hq t i hi => ?_⟩ ol)
  · by_cases c : q = p
    · rw [c, up_eq, up_eq, up_eq, if_pos rfl]
    · rw [up_ne c, up_ne c, up_ne c, f1 q hq]
  · by_cases c : q = p
    · subst c
      rw [up_eq] at hi ⊢
      exact r i hi
    · rw [up_ne c] at hi t ⊢
      have := (k6 q hq t).len
      rw [o _ (by omega)]
      exact g2 q hq t i hi
theorem s_TP_P {S : ST} {p : Nat} (l : List Nat) (ht : S.1 p = true) : s_TP S p l = s_P S p l := by
  unfold s_TP s_P
  rw [show up S.1 p true = S.1 by rw [← ht, up_id]]
theorem l_X5_settleI {r l : List Nat} {c kk : Nat} (hl : okl l) (hlk : l.length ≤ kk) (hk : kk < r.length) (hr : r.length ≤ 20) (hc1 : c < 2 ^ 31)
    (k : ∀ h' F z, hx [51] h h' → hc h' 46 = some (mdo fi wk ru sz li lz kd) → hc h' 51 = some (aI 20 F) → arr F (ins c l) → (∀ x, kk < x → x < r.length → F x = r.getD x 0) → Ok g MX5_settle (m_J g MX5_settle Q) 77 [some (.ref 46), some (.int (nI (l.length + 1))), some (.int (nI kk)), some (.int (nI c)), z] [] h' 0 0) :
    ∀ (i : Nat) (h1 : mH) (F : Nat → Nat), hx [51] h h1 → hc h1 46 = some (mdo fi wk ru sz li lz kd) → hc h1 51 = some (aI 20 F) → i ≤ l.length → (∀ j, j < i → F j = l.getD j 0) → (∀ j, i ≤ j → j < l.length → F (j + 1) = l.getD j 0) → (∀ j, i ≤ j → j < l.length → l.getD j 0 < c) → (∀ x, kk < x → x < r.length → F x = r.getD x 0) →
    Ok g MX5_settle (m_J g MX5_settle Q) 26 [some (.ref 46), some (.int (nI l.length)), some (.int (nI kk)), some (.int (nI c)), some (.int (nI i))] [] h1 0 0 := by
  have hlen := hl.len
  have hss := hl.2.2
  have fin : ∀ (i : Nat) (h1 : mH) (F : Nat → Nat), hx [51] h h1 → hc h1 46 = some (mdo fi wk ru sz li lz kd) → hc h1 51 = some (aI 20 F) → i ≤ l.length → (∀ j, j < i → F j = l.getD j 0) → (∀ j, i ≤ j → j < l.length → F (j + 1) = l.getD j 0) → (∀ j, i ≤ j → j < l.length → l.getD j 0 < c) → (∀ q, q < i → c ≤ l.getD q 0) → (∀ x, kk < x → x < r.length → F x = r.getD x 0) →
      Ok g MX5_settle (m_J g MX5_settle Q) 66 [some (.ref 46), some (.int (nI l.length)), some (.int (nI kk)), some (.int (nI c)), some (.int (nI i))] [] h1 0 0 := by
    intro i h1 F x1 e0 e5 hi g1 g2 g3 g4 t
    refine ok_aload_n dX5_settle_66 rfl rfl ?_
    refine ok_get dX5_settle_67 fl_X5_22 (by assumption) (by rfl) ?_
    refine ok_iload dX5_settle_70 rfl ?_
    refine ok_iload_n dX5_settle_72 rfl ?_
    first | refine okN_iast dX5_settle_73 (by assumption) (by omega) (by decide) (fun h2 hx2 he2 => ?_) | refine okC_iast dX5_settle_73 (by assumption) (by omega) (by omega) (by omega) (fun h2 hx2 he2 => ?_) | refine okF_iast dX5_settle_73 (by assumption) (by omega) (by omega) (fun h2 hx2 he2 => ?_) | refine okN_kast dX5_settle_73 (by assumption) (by omega) (by decide) (fun h2 hx2 he2 => ?_)
    refine okN_inc dX5_settle_74 rfl (st_5_1 rfl) (Nat.le_of_ble_eq_true rfl) ?_
    refine k h2 _ _ (x1.tr' hx2) (hx2.at (by decide) e0) he2 (fun j hj => ?_) (fun x h3 h4 => ?_)
    · rw [ins_len] at hj
      rw [ins_get c l i j hi g4 g3 hj]
      by_cases d : j < i
      · rw [if_pos d, up_ne (by omega), g1 j d]
      · rw [if_neg d]
        by_cases e : j = i
        · rw [if_pos e, e, up_eq]
        · rw [if_neg e, up_ne (by omega)]
          obtain ⟨j', rfl⟩ : ∃ j', j = j' + 1 := ⟨j - 1, by omega⟩
          exact g2 j' (by omega) (by omega)
    · rw [up_ne (by omega)]; exact t x h3 h4
  intro i
  induction i with
  | zero =>
    intro h1 F x1 e0 e5 hi g1 g2 g3 t
    refine ok_iload dX5_settle_26 rfl ?_
    refine okN_if_le (tgt := 66) dX5_settle_28 (by decide) (by omega) (fun c1 => ?_) (fun c1 => ?_)
    · exact fin 0 h1 F x1 e0 e5 hi g1 g2 g3 (fun q hq => by omega) t
    · exact absurd c1 (by omega)
  | succ i ih =>
    intro h1 F x1 e0 e5 hi g1 g2 g3 t
    have gi := g1 i (by omega)
    have gb := gd_sum l i
    refine ok_iload dX5_settle_26 rfl ?_
    refine okN_if_le (tgt := 66) dX5_settle_28 (by decide) (by omega) (fun c1 => ?_) (fun c1 => ?_)
    · exact absurd c1 (by omega)
    · refine ok_aload_n dX5_settle_31 rfl rfl ?_
      refine ok_get dX5_settle_32 fl_X5_22 (by assumption) (by rfl) ?_
      refine ok_iload dX5_settle_35 rfl ?_
      refine ok_iconst (v := nI 1) dX5_settle_37 (by decide) ?_
      first | refine okN_isub dX5_settle_38 (by omega) ?_ | refine ok_isub dX5_settle_38 ?_
      first | refine okN_iald dX5_settle_39 (by assumption) (by omega) (by decide) ?_ | refine okF_iald dX5_settle_39 (by assumption) (by omega) (by omega) ?_ | refine okN_kald dX5_settle_39 (by assumption) (by omega) (by decide) ?_
      rw [show i + 1 - 1 = i by omega, gi]
      refine ok_iload_n dX5_settle_40 rfl ?_
      refine okN_icmp_ge (tgt := 66) dX5_settle_41 (by decide) (by omega) (by omega) (fun c2 => ?_) (fun c2 => ?_)
      · refine fin (i + 1) h1 F x1 e0 e5 hi g1 g2 g3 (fun q hq => ?_) t
        have := srt_get l q i hl.1 (by omega) (by omega)
        omega
      · refine ok_aload_n dX5_settle_44 rfl rfl ?_
        refine ok_get dX5_settle_45 fl_X5_22 (by assumption) (by rfl) ?_
        refine ok_iload dX5_settle_48 rfl ?_
        refine ok_aload_n dX5_settle_50 rfl rfl ?_
        refine ok_get dX5_settle_51 fl_X5_22 (by assumption) (by rfl) ?_
        refine ok_iload dX5_settle_54 rfl ?_
        refine ok_iconst (v := nI 1) dX5_settle_56 (by decide) ?_
        first | refine okN_isub dX5_settle_57 (by omega) ?_ | refine ok_isub dX5_settle_57 ?_
        first | refine okN_iald dX5_settle_58 (by assumption) (by omega) (by decide) ?_ | refine okF_iald dX5_settle_58 (by assumption) (by omega) (by omega) ?_ | refine okN_kald dX5_settle_58 (by assumption) (by omega) (by decide) ?_
        rw [show i + 1 - 1 = i by omega]
        first | refine okN_iast dX5_settle_59 (by assumption) (by omega) (by decide) (fun h2 hx2 he2 => ?_) | refine okC_iast dX5_settle_59 (by assumption) (by omega) (by omega) (by omega) (fun h2 hx2 he2 => ?_) | refine okF_iast dX5_settle_59 (by assumption) (by omega) (by omega) (fun h2 hx2 he2 => ?_) | refine okN_kast dX5_settle_59 (by assumption) (by omega) (by decide) (fun h2 hx2 he2 => ?_)
        refine okN_dec dX5_settle_60 rfl (by omega) (st_5_4 rfl) (Nat.le_of_ble_eq_true rfl) ?_
        refine ok_goto (tgt := 26) dX5_settle_63 (by decide) ?_
        refine ih h2 _ (x1.tr' hx2) (hx2.at (by decide) e0) he2 (by omega) (fun j hj => ?_) (fun j h3 h4 => ?_) (fun j h3 h4 => ?_) (fun x h3 h4 => ?_)
        · rw [up_ne (by omega), g1 j (by omega)]
        · by_cases e : j = i
          · subst e; rw [up_eq, gi]
          · rw [up_ne (by omega)]
            exact g2 j (by omega) h4
        · by_cases e : j = i
          · subst e; exact c2
          · exact g3 j (by omega) h4
        · rw [up_ne (by omega)]; exact t x h3 h4
theorem l_X5_settle {r : List Nat} (hs : ∀ k, k ≤ r.length → okl (seN r k)) (hb : ∀ k, k < r.length → r.getD k 0 < 2 ^ 31) (hr : r.length ≤ 20) (k : ∀ h', hx [46, 51] h h' → hc h' 46 = some (mdo fi wk ru (seN r r.length).length li lz kd) → Rm h' (seN r r.length) → Q none h') :
    ∀ (d kk : Nat) (h1 : mH) (F : Nat → Nat) (z3 z4 : Option Value), kk + d = r.length → hx [51] h h1 → hc h1 46 = some (mdo fi wk ru r.length li lz kd) → hc h1 51 = some (aI 20 F) → arr F (seN r kk) → (∀ x, kk ≤ x → x < r.length → F x = r.getD x 0) → m_c2 z3 = false → 
    Ok g MX5_settle (m_J g MX5_settle Q) 4 [some (.ref 46), some (.int (nI (seN r kk).length)), some (.int (nI kk)), z3, z4] [] h1 0 0 := by
  intro d
  induction d with
  | zero =>
    intro kk h1 F z3 z4 hk x1 e0 e5 a t hz
    have ek : kk = r.length := by omega
    subst ek
    refine ok_iload_n dX5_settle_4 rfl ?_
    refine ok_aload_n dX5_settle_5 rfl rfl ?_
    refine ok_get dX5_settle_6 fl_X5_94 (by assumption) (by rfl) ?_
    refine okN_icmp_ge (tgt := 83) dX5_settle_9 (by decide) (by omega) (by omega) (fun c1 => ?_) (fun c1 => ?_)
    · refine ok_aload_n dX5_settle_83 rfl rfl ?_
      refine ok_iload_n dX5_settle_84 rfl ?_
      refine okR_put dX5_settle_85 fl_X5_94 (by assumption) (Nat.le_of_ble_eq_true rfl) (fun _ => ⟨rfl, rfl⟩) set_24_8 (fun h2 hx2 he2 => ?_)
      refine ok_vret dX5_settle_88 rfl ⟨Nat.le_of_ble_eq_true rfl, Nat.le_of_ble_eq_true rfl⟩ ?_
      exact k h2 (x1.tr hx2 (by simp) (by simp)) he2 ⟨F, hx2.at (by decide) e5, a⟩
    · exact absurd c1 (by omega)
  | succ d ih =>
    intro kk h1 F z3 z4 hk x1 e0 e5 a t hz
    have o1 := hs kk (by omega)
    have o3 := seN_len r kk
    have nx1 := ih (kk + 1)
    unfold seN put0 at nx1
    have gb := hb kk (by omega)
    refine ok_iload_n dX5_settle_4 rfl ?_
    refine ok_aload_n dX5_settle_5 rfl rfl ?_
    refine ok_get dX5_settle_6 fl_X5_94 (by assumption) (by rfl) ?_
    refine okN_icmp_ge (tgt := 83) dX5_settle_9 (by decide) (by omega) (by omega) (fun c1 => ?_) (fun c1 => ?_)
    · exact absurd c1 (by omega)
    · refine ok_aload_n dX5_settle_12 rfl rfl ?_
      refine ok_get dX5_settle_13 fl_X5_22 (by assumption) (by rfl) ?_
      refine ok_iload_n dX5_settle_16 rfl ?_
      first | refine okN_iald dX5_settle_17 (by assumption) (by omega) (by decide) ?_ | refine okF_iald dX5_settle_17 (by assumption) (by omega) (by omega) ?_ | refine okN_kald dX5_settle_17 (by assumption) (by omega) (by decide) ?_
      rw [t kk (Nat.le_refl _) c1]
      refine ok_istore_n dX5_settle_18 (st_5_3 rfl) (Nat.le_of_ble_eq_true rfl) ?_
      refine ok_iload_n dX5_settle_19 rfl ?_
      refine okN_if_le (tgt := 77) dX5_settle_20 (by decide) (by omega) (fun c2 => ?_) (fun c2 => ?_)
      · rw [if_pos c2] at nx1
        refine okN_inc dX5_settle_77 rfl (st_5_2 rfl) (Nat.le_of_ble_eq_true rfl) ?_
        refine ok_goto (tgt := 4) dX5_settle_80 (by decide) ?_
        exact nx1 h1 F _ _ (by omega) x1 e0 e5 a (fun x h3 h4 => t x (by omega) h4) rfl
      · rw [if_neg (by omega)] at nx1
        refine ok_iload_n dX5_settle_23 rfl ?_
        refine ok_istore dX5_settle_24 (st_5_4 rfl) (Nat.le_of_ble_eq_true rfl) ?_
        refine l_X5_settleI (h := h) (r := r) o1 o3 c1 hr (by omega) (fun h' F' z x' e0' e5' a' t' => ?_) (seN r kk).length h1 F x1 e0 e5 (Nat.le_refl _) a (fun j h3 h4 => by omega) (fun j h3 h4 => by omega) (fun x h3 h4 => t x (by omega) h4)
        rw [ins_len] at nx1
        refine okN_inc dX5_settle_77 rfl (st_5_2 rfl) (Nat.le_of_ble_eq_true rfl) ?_
        refine ok_goto (tgt := 4) dX5_settle_80 (by decide) ?_
        exact nx1 h' F' _ _ (by omega) x' e0' e5' a' (fun x h3 h4 => t' x (by omega) h4) rfl
theorem c_X5_settle {r : List Nat} (e0 : hc h 46 = some (mdo fi wk ru r.length li lz kd)) (R : Rm h r) (hs : ∀ k, k ≤ r.length → okl (seN r k)) (hb : ∀ k, k < r.length → r.getD k 0 < 2 ^ 31) (hr : r.length ≤ 20) (k : ∀ h', hx [46, 51] h h' → hc h' 46 = some (mdo fi wk ru (seN r r.length).length li lz kd) → Rm h' (seN r r.length) → Q none h') : Ok g MX5_settle (m_J g MX5_settle Q) 0 [some (.ref 46), none, none, none, none] [] h 0 0 := by
  obtain ⟨F, e5, a⟩ := R
  refine ok_iconst (v := nI 0) dX5_settle_0 (by decide) ?_
  refine ok_istore_n dX5_settle_1 (st_5_1 rfl) (Nat.le_of_ble_eq_true rfl) ?_
  refine ok_iconst (v := nI 0) dX5_settle_2 (by decide) ?_
  refine ok_istore_n dX5_settle_3 (st_5_2 rfl) (Nat.le_of_ble_eq_true rfl) ?_
  exact l_X5_settle (h := h) hs hb hr k r.length 0 h F _ _ (by omega) hx.rf e0 e5 (fun i hi => by simp [seN] at hi) (fun x h1 h2 => a x h2) rfl
theorem l_X5_give {r : List Nat} {q e : Nat} (he : e ≤ r.length) (hr : r.length ≤ 18) (hs : r.sum ≤ 18) (hq : q < 2 ^ 31) (k : ∀ h', hx [46, 51] h h' → hc h' 46 = some (mdo fi wk ru (r.length + 1) li lz kd) → Rm h' (gvF q e r) → Q none h') :
    ∀ (d i : Nat) (h1 : mH) (F : Nat → Nat) (z : Option Value), i + d = e → hx [51] h h1 → hc h1 46 = some (mdo fi wk ru r.length li lz kd) → hc h1 51 = some (aI 20 F) → (∀ x, x < r.length → F x = if x < i then r.getD x 0 - mn q (r.getD x 0) else r.getD x 0) →
    Ok g MX5_give (m_J g MX5_give Q) 6 [some (.ref 46), some (.int (nI 0)), some (.int (nI e)), some (.int (nI q)), some (.int (nI (gvS q r i))), some (.int (nI i)), z] [] h1 0 0 := by
  intro d
  induction d with
  | zero =>
    intro i h1 F z hi x1 e0 e5 f
    have ei : i = e := by omega
    subst ei
    refine ok_iload dX5_give_6 rfl ?_
    refine ok_iload_n dX5_give_8 rfl ?_
    refine okN_icmp_ge (tgt := 61) dX5_give_9 (by decide) (by omega) (by omega) (fun c1 => ?_) (fun c1 => ?_)
    · refine ok_aload_n dX5_give_61 rfl rfl ?_
      refine ok_get dX5_give_62 fl_X5_22 (by assumption) (by rfl) ?_
      refine ok_aload_n dX5_give_65 rfl rfl ?_
      refine ok_get dX5_give_66 fl_X5_94 (by assumption) (by rfl) ?_
      refine ok_iload dX5_give_69 rfl ?_
      first | refine okN_iast dX5_give_71 (by assumption) (by omega) (by decide) (fun h2 hx2 he2 => ?_) | refine okC_iast dX5_give_71 (by assumption) (by omega) (by omega) (by omega) (fun h2 hx2 he2 => ?_) | refine okF_iast dX5_give_71 (by assumption) (by omega) (by omega) (fun h2 hx2 he2 => ?_) | refine okN_kast dX5_give_71 (by assumption) (by omega) (by decide) (fun h2 hx2 he2 => ?_)
      have e02 := hx2.at (by decide) e0
      refine ok_aload_n dX5_give_72 rfl rfl ?_
      refine ok_dup dX5_give_73 rfl ?_
      refine ok_get dX5_give_74 fl_X5_94 (by assumption) (by rfl) ?_
      refine ok_iconst (v := nI 1) dX5_give_77 (by decide) ?_
      first | refine okN_iadd dX5_give_78 ?_ | refine ok_iadd dX5_give_78 ?_
      refine okR_put dX5_give_79 fl_X5_94 (by assumption) (Nat.le_of_ble_eq_true rfl) (fun _ => ⟨rfl, rfl⟩) set_24_8 (fun h3 hx3 he3 => ?_)
      refine ok_vret dX5_give_82 rfl ⟨Nat.le_of_ble_eq_true rfl, Nat.le_of_ble_eq_true rfl⟩ ?_
      refine k h3 ((x1.tr hx2 (C := [46, 51]) (by simp) (by simp)).tr hx3 (by simp) (by simp)) he3 ⟨_, hx3.at (by decide) he2, fun x hx4 => ?_⟩
      rw [gvF_len] at hx4
      by_cases c : x = r.length
      · subst c
        rw [up_eq, gvF_last]
      · rw [up_ne c, gvF_get _ _ _ (by omega), f x (by omega)]
    · exact absurd c1 (by omega)
  | succ d ih =>
    intro i h1 F z hi x1 e0 e5 f
    have nx1 := ih (i + 1)
    have gb := gd_sum r i
    have fi1 := f i (by omega)
    rw [if_neg (by omega)] at fi1
    have ml := mn_le q (r.getD i 0)
    have rest : ∀ v, v = mn q (r.getD i 0) → Ok g MX5_give (m_J g MX5_give Q) 34 [some (.ref 46), some (.int (nI 0)), some (.int (nI e)), some (.int (nI q)), some (.int (nI (gvS q r i))), some (.int (nI i)), z] [.int (nI v)] h1 0 0 := by
      intro v hv
      subst hv
      refine ok_istore dX5_give_34 (st_7_6 rfl) (Nat.le_of_ble_eq_true rfl) ?_
      refine ok_aload_n dX5_give_36 rfl rfl ?_
      refine ok_get dX5_give_37 fl_X5_22 (by assumption) (by rfl) ?_
      refine ok_iload dX5_give_40 rfl ?_
      refine ok_dup2 dX5_give_42 rfl rfl ?_
      first | refine okN_iald dX5_give_43 (by assumption) (by omega) (by decide) ?_ | refine okF_iald dX5_give_43 (by assumption) (by omega) (by omega) ?_ | refine okN_kald dX5_give_43 (by assumption) (by omega) (by decide) ?_
      rw [fi1]
      refine ok_iload dX5_give_44 rfl ?_
      first | refine okN_isub dX5_give_46 (by omega) ?_ | refine ok_isub dX5_give_46 ?_
      first | refine okN_iast dX5_give_47 (by assumption) (by omega) (by decide) (fun h2 hx2 he2 => ?_) | refine okC_iast dX5_give_47 (by assumption) (by omega) (by omega) (by omega) (fun h2 hx2 he2 => ?_) | refine okF_iast dX5_give_47 (by assumption) (by omega) (by omega) (fun h2 hx2 he2 => ?_) | refine okN_kast dX5_give_47 (by assumption) (by omega) (by decide) (fun h2 hx2 he2 => ?_)
      refine ok_iload dX5_give_48 rfl ?_
      refine ok_iload dX5_give_50 rfl ?_
      first | refine okN_iadd dX5_give_52 ?_ | refine ok_iadd dX5_give_52 ?_
      refine ok_istore dX5_give_53 (st_7_4 rfl) (Nat.le_of_ble_eq_true rfl) ?_
      refine okN_inc dX5_give_55 rfl (st_7_5 rfl) (Nat.le_of_ble_eq_true rfl) ?_
      refine ok_goto (tgt := 6) dX5_give_58 (by decide) ?_
      refine nx1 h2 _ _ (by omega) (x1.tr' hx2) (hx2.at (by decide) e0) he2 (fun x hx4 => ?_)
      by_cases c : x = i
      · rw [c, up_eq, if_pos (by omega)]
      · rw [up_ne c, f x hx4]
        by_cases c2 : x < i
        · rw [if_pos c2, if_pos (by omega)]
        · rw [if_neg c2, if_neg (by omega)]
    unfold mn at rest
    refine ok_iload dX5_give_6 rfl ?_
    refine ok_iload_n dX5_give_8 rfl ?_
    refine okN_icmp_ge (tgt := 61) dX5_give_9 (by decide) (by omega) (by omega) (fun c1 => ?_) (fun c1 => ?_)
    · exact absurd c1 (by omega)
    · refine ok_aload_n dX5_give_12 rfl rfl ?_
      refine ok_get dX5_give_13 fl_X5_22 (by assumption) (by rfl) ?_
      refine ok_iload dX5_give_16 rfl ?_
      first | refine okN_iald dX5_give_18 (by assumption) (by omega) (by decide) ?_ | refine okF_iald dX5_give_18 (by assumption) (by omega) (by omega) ?_ | refine okN_kald dX5_give_18 (by assumption) (by omega) (by decide) ?_
      rw [fi1]
      refine ok_iload_n dX5_give_19 rfl ?_
      refine okN_icmp_ge (tgt := 33) dX5_give_20 (by decide) (by omega) (by omega) (fun c2 => ?_) (fun c2 => ?_)
      · refine ok_iload_n dX5_give_33 rfl ?_
        exact rest _ (by rw [if_neg (by omega)])
      · refine ok_aload_n dX5_give_23 rfl rfl ?_
        refine ok_get dX5_give_24 fl_X5_22 (by assumption) (by rfl) ?_
        refine ok_iload dX5_give_27 rfl ?_
        first | refine okN_iald dX5_give_29 (by assumption) (by omega) (by decide) ?_ | refine okF_iald dX5_give_29 (by assumption) (by omega) (by omega) ?_ | refine okN_kald dX5_give_29 (by assumption) (by omega) (by decide) ?_
        rw [fi1]
        refine ok_goto (tgt := 34) dX5_give_30 (by decide) ?_
        exact rest _ (by rw [if_pos c2])
theorem c_X5_give {r : List Nat} {q e : Nat} (e0 : hc h 46 = some (mdo fi wk ru r.length li lz kd)) (R : Rm h r) (he : e ≤ r.length) (hr : r.length ≤ 18) (hs : r.sum ≤ 18) (hq : q < 2 ^ 31) (k : ∀ h', hx [46, 51] h h' → hc h' 46 = some (mdo fi wk ru (r.length + 1) li lz kd) → Rm h' (gvF q e r) → Q none h') : Ok g MX5_give (m_J g MX5_give Q) 0 [some (.ref 46), some (.int (nI 0)), some (.int (nI e)), some (.int (nI q)), none, none, none] [] h 0 0 := by
  obtain ⟨F, e5, a⟩ := R
  refine ok_iconst (v := nI 0) dX5_give_0 (by decide) ?_
  refine ok_istore dX5_give_1 (st_7_4 rfl) (Nat.le_of_ble_eq_true rfl) ?_
  refine ok_iload_n dX5_give_3 rfl ?_
  refine ok_istore dX5_give_4 (st_7_5 rfl) (Nat.le_of_ble_eq_true rfl) ?_
  exact l_X5_give (h := h) he hr hs hq k e 0 h F _ (by omega) hx.rf e0 e5 (fun x hx4 => by rw [if_neg (by omega)]; exact a x hx4)
theorem l_X5_goOn3 {r : List Nat} (hr : r.length ≤ 18) (h1r : 1 ≤ r.length) (hs : r.sum ≤ 18) (k : ∀ h' z, hx [51] h h' → hc h' 46 = some (mdo fi wk ru r.length li lz kd) → Rm h' (lsF r (mn (r.length - 1) (r.getD (r.length - 1) 0))) → Ok g MX5_goOn (m_J g MX5_goOn Q) 140 [some (.ref 46), z] [] h' 0 0) :
    ∀ (d i : Nat) (h1 : mH) (F : Nat → Nat), i + d = mn (r.length - 1) (r.getD (r.length - 1) 0) → hx [51] h h1 → hc h1 46 = some (mdo fi wk ru r.length li lz kd) → hc h1 51 = some (aI 20 F) → arr F (lsF r i) →
    Ok g MX5_goOn (m_J g MX5_goOn Q) 85 [some (.ref 46), some (.int (nI i))] [] h1 0 0 := by
  have gl := gd_sum r (r.length - 1)
  have lsg : ∀ t x, x < r.length → (lsF r t).getD x 0 = if x + 1 = r.length then r.getD x 0 - t else if x < t then r.getD x 0 + 1 else r.getD x 0 := fun t x hx4 => by unfold lsF; rw [mr_get hx4]
  have mnv : mn (r.length - 1) (r.getD (r.length - 1) 0) ≤ r.getD (r.length - 1) 0 ∧ mn (r.length - 1) (r.getD (r.length - 1) 0) ≤ r.length - 1 ∧ (mn (r.length - 1) (r.getD (r.length - 1) 0) = r.getD (r.length - 1) 0 ∨ mn (r.length - 1) (r.getD (r.length - 1) 0) = r.length - 1) := by
    unfold mn
    split <;> omega
  intro d
  induction d with
  | zero =>
    intro i h1 F hi x1 e0 e5 a
    rw [show mn (r.length - 1) (r.getD (r.length - 1) 0) = i by omega] at k mnv
    refine ok_iload_n dX5_goOn_85 rfl ?_
    refine ok_iconst (v := nI 1) dX5_goOn_86 (by decide) ?_
    first | refine okN_iadd dX5_goOn_87 ?_ | refine ok_iadd dX5_goOn_87 ?_
    refine ok_aload_n dX5_goOn_88 rfl rfl ?_
    refine ok_get dX5_goOn_89 fl_X5_94 (by assumption) (by rfl) ?_
    refine okN_icmp_ge (tgt := 140) dX5_goOn_92 (by decide) (by omega) (by omega) (fun c1 => ?_) (fun c1 => ?_)
    · exact k h1 _ x1 e0 ⟨F, e5, a⟩
    · have fl := a (r.length - 1) (by rw [lsF_len]; omega)
      rw [lsg _ _ (by omega), if_pos (by omega)] at fl
      refine ok_aload_n dX5_goOn_95 rfl rfl ?_
      refine ok_get dX5_goOn_96 fl_X5_22 (by assumption) (by rfl) ?_
      refine ok_aload_n dX5_goOn_99 rfl rfl ?_
      refine ok_get dX5_goOn_100 fl_X5_94 (by assumption) (by rfl) ?_
      refine ok_iconst (v := nI 1) dX5_goOn_103 (by decide) ?_
      first | refine okN_isub dX5_goOn_104 (by omega) ?_ | refine ok_isub dX5_goOn_104 ?_
      first | refine okN_iald dX5_goOn_105 (by assumption) (by omega) (by decide) ?_ | refine okF_iald dX5_goOn_105 (by assumption) (by omega) (by omega) ?_ | refine okN_kald dX5_goOn_105 (by assumption) (by omega) (by decide) ?_
      rw [fl]
      refine okN_if_le (tgt := 140) dX5_goOn_106 (by decide) (by omega) (fun c2 => ?_) (fun c2 => ?_)
      · exact k h1 _ x1 e0 ⟨F, e5, a⟩
      · exact absurd c2 (by omega)
  | succ d ih =>
    intro i h1 F hi x1 e0 e5 a
    have fl := a (r.length - 1) (by rw [lsF_len]; omega)
    rw [lsg _ _ (by omega), if_pos (by omega)] at fl
    have fi1 := a i (by rw [lsF_len]; omega)
    rw [lsg _ _ (by omega), if_neg (by omega), if_neg (by omega)] at fi1
    have gb := gd_sum r i
    refine ok_iload_n dX5_goOn_85 rfl ?_
    refine ok_iconst (v := nI 1) dX5_goOn_86 (by decide) ?_
    first | refine okN_iadd dX5_goOn_87 ?_ | refine ok_iadd dX5_goOn_87 ?_
    refine ok_aload_n dX5_goOn_88 rfl rfl ?_
    refine ok_get dX5_goOn_89 fl_X5_94 (by assumption) (by rfl) ?_
    refine okN_icmp_ge (tgt := 140) dX5_goOn_92 (by decide) (by omega) (by omega) (fun c1 => ?_) (fun c1 => ?_)
    · exact absurd c1 (by omega)
    · refine ok_aload_n dX5_goOn_95 rfl rfl ?_
      refine ok_get dX5_goOn_96 fl_X5_22 (by assumption) (by rfl) ?_
      refine ok_aload_n dX5_goOn_99 rfl rfl ?_
      refine ok_get dX5_goOn_100 fl_X5_94 (by assumption) (by rfl) ?_
      refine ok_iconst (v := nI 1) dX5_goOn_103 (by decide) ?_
      first | refine okN_isub dX5_goOn_104 (by omega) ?_ | refine ok_isub dX5_goOn_104 ?_
      first | refine okN_iald dX5_goOn_105 (by assumption) (by omega) (by decide) ?_ | refine okF_iald dX5_goOn_105 (by assumption) (by omega) (by omega) ?_ | refine okN_kald dX5_goOn_105 (by assumption) (by omega) (by decide) ?_
      rw [fl]
      refine okN_if_le (tgt := 140) dX5_goOn_106 (by decide) (by omega) (fun c2 => ?_) (fun c2 => ?_)
      · exact absurd c2 (by omega)
      · refine ok_aload_n dX5_goOn_109 rfl rfl ?_
        refine ok_get dX5_goOn_110 fl_X5_22 (by assumption) (by rfl) ?_
        refine ok_iload_n dX5_goOn_113 rfl ?_
        refine ok_dup2 dX5_goOn_114 rfl rfl ?_
        first | refine okN_iald dX5_goOn_115 (by assumption) (by omega) (by decide) ?_ | refine okF_iald dX5_goOn_115 (by assumption) (by omega) (by omega) ?_ | refine okN_kald dX5_goOn_115 (by assumption) (by omega) (by decide) ?_
        rw [fi1]
        refine ok_iconst (v := nI 1) dX5_goOn_116 (by decide) ?_
        first | refine okN_iadd dX5_goOn_117 ?_ | refine ok_iadd dX5_goOn_117 ?_
        first | refine okN_iast dX5_goOn_118 (by assumption) (by omega) (by decide) (fun h2 hx2 he2 => ?_) | refine okC_iast dX5_goOn_118 (by assumption) (by omega) (by omega) (by omega) (fun h2 hx2 he2 => ?_) | refine okF_iast dX5_goOn_118 (by assumption) (by omega) (by omega) (fun h2 hx2 he2 => ?_) | refine okN_kast dX5_goOn_118 (by assumption) (by omega) (by decide) (fun h2 hx2 he2 => ?_)
        have e02 := hx2.at (by decide) e0
        refine ok_aload_n dX5_goOn_119 rfl rfl ?_
        refine ok_get dX5_goOn_120 fl_X5_22 (by assumption) (by rfl) ?_
        refine ok_aload_n dX5_goOn_123 rfl rfl ?_
        refine ok_get dX5_goOn_124 fl_X5_94 (by assumption) (by rfl) ?_
        refine ok_iconst (v := nI 1) dX5_goOn_127 (by decide) ?_
        first | refine okN_isub dX5_goOn_128 (by omega) ?_ | refine ok_isub dX5_goOn_128 ?_
        refine ok_dup2 dX5_goOn_129 rfl rfl ?_
        first | refine okN_iald dX5_goOn_130 (by assumption) (by omega) (by decide) ?_ | refine okF_iald dX5_goOn_130 (by assumption) (by omega) (by omega) ?_ | refine okN_kald dX5_goOn_130 (by assumption) (by omega) (by decide) ?_
        rw [up_ne (show r.length - 1 ≠ i by omega), fl]
        refine ok_iconst (v := nI 1) dX5_goOn_131 (by decide) ?_
        first | refine okN_isub dX5_goOn_132 (by omega) ?_ | refine ok_isub dX5_goOn_132 ?_
        first | refine okN_iast dX5_goOn_133 (by assumption) (by omega) (by decide) (fun h3 hx3 he3 => ?_) | refine okC_iast dX5_goOn_133 (by assumption) (by omega) (by omega) (by omega) (fun h3 hx3 he3 => ?_) | refine okF_iast dX5_goOn_133 (by assumption) (by omega) (by omega) (fun h3 hx3 he3 => ?_) | refine okN_kast dX5_goOn_133 (by assumption) (by omega) (by decide) (fun h3 hx3 he3 => ?_)
        refine okN_inc dX5_goOn_134 rfl (st_2_1 rfl) (Nat.le_of_ble_eq_true rfl) ?_
        refine ok_goto (tgt := 85) dX5_goOn_137 (by decide) ?_
        refine ih (i + 1) h3 _ (by omega) ((x1.tr' hx2).tr' hx3) (hx3.at (by decide) e02) he3 (fun x hx4 => ?_)
        rw [lsF_len] at hx4
        rw [lsg _ _ hx4]
        have ax := a x (by rw [lsF_len]; exact hx4)
        rw [lsg _ _ hx4] at ax
        by_cases c : x = r.length - 1
        · rw [c, up_eq, if_pos (by omega)]
          omega
        · rw [up_ne c, if_neg (by omega)]
          rw [if_neg (by omega)] at ax
          by_cases c3 : x = i
          · rw [c3, up_eq, if_pos (by omega)]
          · rw [up_ne c3, ax]
            by_cases c4 : x < i
            · rw [if_pos c4, if_pos (by omega)]
            · rw [if_neg c4, if_neg (by omega)]
theorem c_X5_goOn {l : List Nat} (e0 : hc h 46 = some (mdo fi wk ru l.length li lz kd)) (R : Rm h l) (ol : okl l) (hru : ru < 4) (k : ∀ h', hx [46, 51] h h' → hc h' 46 = some (mdo fi wk ru (stp ru l).length li lz kd) → Rm h' (stp ru l) → Q none h') : Ok g MX5_goOn (m_J g MX5_goOn Q) 0 [some (.ref 46), none] [] h 0 0 := by
  obtain ⟨g1, g2⟩ := go_ok hru ol
  have hlen := ol.len
  have hsum := ol.2.2
  have fin : ¬ (l.length = 0 ∨ (ru = 3 ∧ l.length = 1)) → ∀ h' z, hx [46, 51] h h' → hc h' 46 = some (mdo fi wk ru (goR ru l).length li lz kd) → Rm h' (goR ru l) → Ok g MX5_goOn (m_J g MX5_goOn Q) 140 [some (.ref 46), z] [] h' 0 0 := by
    intro hn h' z x e r
    unfold goM at g1
    rw [if_neg hn] at g1
    have ln : (goR ru l).length ≤ 20 := by
      unfold goR
      (repeat' split) <;> simp only [gvF_len, lsF_len] <;> omega
    refine ok_aload_n dX5_goOn_140 rfl rfl ?_
    refine call_X5_settle dX5_goOn_141 lk_X5_101 ⟨Nat.le_of_ble_eq_true rfl, Nat.le_of_ble_eq_true rfl, Nat.le_of_ble_eq_true rfl⟩ (by assumption) (Nat.le_of_ble_eq_true rfl) ?_
    refine c_X5_settle e r (g2 hn).1 (g2 hn).2 ln (fun h2 x2 e2 r2 => ?_)
    rw [g1] at e2 r2
    refine ok_vret dX5_goOn_144 rfl ⟨Nat.le_of_ble_eq_true rfl, Nat.le_of_ble_eq_true rfl⟩ ?_
    exact k h2 (x.tr' x2) e2 r2
  have stay : (l.length = 0 ∨ (ru = 3 ∧ l.length = 1)) → Ok g MX5_goOn (m_J g MX5_goOn Q) 23 [some (.ref 46), none] [] h 0 0 := by
    intro hn
    unfold goM at g1
    rw [if_pos hn] at g1
    rw [← g1] at k
    refine ok_vret dX5_goOn_23 rfl ⟨Nat.le_of_ble_eq_true rfl, Nat.le_of_ble_eq_true rfl⟩ ?_
    exact k h hx.rf e0 R
  refine ok_aload_n dX5_goOn_0 rfl rfl ?_
  refine ok_get dX5_goOn_1 fl_X5_94 (by assumption) (by rfl) ?_
  refine okN_if_eq (tgt := 23) dX5_goOn_4 (by decide) (by omega) (fun c1 => ?_) (fun c1 => ?_)
  · exact stay (Or.inl c1)
  · have go : ¬ (ru = 3 ∧ l.length = 1) → Ok g MX5_goOn (m_J g MX5_goOn Q) 24 [some (.ref 46), none] [] h 0 0 := by
      intro hn
      have fin2 := fin (fun z => by omega)
      unfold goR at fin2
      refine ok_aload_n dX5_goOn_24 rfl rfl ?_
      refine ok_get dX5_goOn_25 fl_X5_91 (by assumption) (by rfl) ?_
      refine okN_if_ne (tgt := 44) dX5_goOn_28 (by decide) (by omega) (fun c2 => ?_) (fun c2 => ?_)
      · rw [if_neg (by omega)] at fin2
        refine ok_aload_n dX5_goOn_44 rfl rfl ?_
        refine ok_get dX5_goOn_45 fl_X5_91 (by assumption) (by rfl) ?_
        refine ok_iconst (v := nI 1) dX5_goOn_48 (by decide) ?_
        refine okN_icmp_ne (tgt := 62) dX5_goOn_49 (by decide) (by omega) (by omega) (fun c3 => ?_) (fun c3 => ?_)
        · rw [if_neg (by omega)] at fin2
          refine ok_aload_n dX5_goOn_62 rfl rfl ?_
          refine ok_get dX5_goOn_63 fl_X5_91 (by assumption) (by rfl) ?_
          refine ok_iconst (v := nI 2) dX5_goOn_66 (by decide) ?_
          refine okN_icmp_ne (tgt := 83) dX5_goOn_67 (by decide) (by omega) (by omega) (fun c4 => ?_) (fun c4 => ?_)
          · rw [if_neg (by omega)] at fin2
            refine ok_iconst (v := nI 0) dX5_goOn_83 (by decide) ?_
            refine ok_istore_n dX5_goOn_84 (st_2_1 rfl) (Nat.le_of_ble_eq_true rfl) ?_
            obtain ⟨F51, e51, a51⟩ := R
            refine l_X5_goOn3 (h := h) hlen (by omega) hsum (fun h' z x e r => ?_) (mn (l.length - 1) (l.getD (l.length - 1) 0)) 0 h F51 (by omega) hx.rf e0 e51 ?_
            · exact fin2 h' z (x.mono (by simp)) (by rw [lsF_len]; exact e) r
            · intro x hx4
              rw [lsF_len] at hx4
              unfold lsF
              rw [mr_get hx4, a51 x hx4]
              split
              · rfl
              · rw [if_neg (by omega)]
          · rw [if_pos c4] at fin2
            refine ok_aload_n dX5_goOn_70 rfl rfl ?_
            refine ok_iconst (v := nI 0) dX5_goOn_71 (by decide) ?_
            refine ok_aload_n dX5_goOn_72 rfl rfl ?_
            refine ok_get dX5_goOn_73 fl_X5_94 (by assumption) (by rfl) ?_
            refine ok_iconst (v := nI 2) dX5_goOn_76 (by decide) ?_
            refine call_X5_give dX5_goOn_77 lk_X5_97 ⟨Nat.le_of_ble_eq_true rfl, Nat.le_of_ble_eq_true rfl, Nat.le_of_ble_eq_true rfl⟩ (by assumption) (Nat.le_of_ble_eq_true rfl) ?_
            refine c_X5_give e0 R (Nat.le_refl _) hlen hsum (by decide) (fun h' x e r => ?_)
            refine ok_goto (tgt := 140) dX5_goOn_80 (by decide) ?_
            exact fin2 h' _ x (by rw [gvF_len]; exact e) r
        · rw [if_pos c3] at fin2
          refine ok_aload_n dX5_goOn_52 rfl rfl ?_
          refine ok_iconst (v := nI 0) dX5_goOn_53 (by decide) ?_
          refine ok_iconst (v := nI 1) dX5_goOn_54 (by decide) ?_
          refine ok_iconst (v := nI 1) dX5_goOn_55 (by decide) ?_
          refine call_X5_give dX5_goOn_56 lk_X5_97 ⟨Nat.le_of_ble_eq_true rfl, Nat.le_of_ble_eq_true rfl, Nat.le_of_ble_eq_true rfl⟩ (by assumption) (Nat.le_of_ble_eq_true rfl) ?_
          refine c_X5_give e0 R (by omega) hlen hsum (by decide) (fun h' x e r => ?_)
          refine ok_goto (tgt := 140) dX5_goOn_59 (by decide) ?_
          exact fin2 h' _ x (by rw [gvF_len]; exact e) r
      · rw [if_pos c2] at fin2
        refine ok_aload_n dX5_goOn_31 rfl rfl ?_
        refine ok_iconst (v := nI 0) dX5_goOn_32 (by decide) ?_
        refine ok_aload_n dX5_goOn_33 rfl rfl ?_
        refine ok_get dX5_goOn_34 fl_X5_94 (by assumption) (by rfl) ?_
        refine ok_iconst (v := nI 1) dX5_goOn_37 (by decide) ?_
        refine call_X5_give dX5_goOn_38 lk_X5_97 ⟨Nat.le_of_ble_eq_true rfl, Nat.le_of_ble_eq_true rfl, Nat.le_of_ble_eq_true rfl⟩ (by assumption) (Nat.le_of_ble_eq_true rfl) ?_
        refine c_X5_give e0 R (Nat.le_refl _) hlen hsum (by decide) (fun h' x e r => ?_)
        refine ok_goto (tgt := 140) dX5_goOn_41 (by decide) ?_
        exact fin2 h' _ x (by rw [gvF_len]; exact e) r
    refine ok_aload_n dX5_goOn_7 rfl rfl ?_
    refine ok_get dX5_goOn_8 fl_X5_91 (by assumption) (by rfl) ?_
    refine ok_iconst (v := nI 3) dX5_goOn_11 (by decide) ?_
    refine okN_icmp_ne (tgt := 24) dX5_goOn_12 (by decide) (by omega) (by omega) (fun c2 => ?_) (fun c2 => ?_)
    · exact go (fun z => by omega)
    · refine ok_aload_n dX5_goOn_15 rfl rfl ?_
      refine ok_get dX5_goOn_16 fl_X5_94 (by assumption) (by rfl) ?_
      refine ok_iconst (v := nI 1) dX5_goOn_19 (by decide) ?_
      refine okN_icmp_ne (tgt := 24) dX5_goOn_20 (by decide) (by omega) (by omega) (fun c3 => ?_) (fun c3 => ?_)
      · exact go (fun z => by omega)
      · exact stay (Or.inr ⟨c2, c3⟩)
end MROW
