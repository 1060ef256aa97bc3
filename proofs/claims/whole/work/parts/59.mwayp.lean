/-! ===== the second program's gifts: what its loops count ===== -/
theorem rl_ok {l : List Nat} (h : okl l) : rl l l.length = dsF (tly l) l.sum := by
  have hs := h.2.2
  have c := chkR_all l.sum (by omega)
  unfold chkR at c
  have := List.all_eq_true.mp c (nb l) (List.mem_range.mpr (nb_lt h))
  rw [wr_nb h, beq_iff_eq] at this
  rw [this, show tly l = fun c => cn c l from funext (fun c => tly_cn l c)]
theorem rl_new (c : Nat) : ∀ (L : List (Nat × Nat)), (∀ L0 q, L = L0 ++ [q] → q.1 ≠ c) → rlA c L = L ++ [(c, 1)]
  | [], _ => rfl
  | q :: t, h => by
    unfold rlA
    by_cases z : t = []
    · rw [if_pos z]
      subst z
      rw [if_neg (h [] q rfl)]
      rfl
    · rw [if_neg z, rl_new c t (fun L0 r e => h (q :: L0) r (by rw [e]; rfl))]
      rfl
theorem rl_old (c : Nat) (q : Nat × Nat) (hq : q.1 = c) : ∀ (L : List (Nat × Nat)), rlA c (L ++ [q]) = L ++ [(q.1, q.2 + 1)]
  | [] => by
    show (if ([] : List (Nat × Nat)) = [] then (if q.1 = c then [(q.1, q.2 + 1)] else [q, (c, 1)]) else _) = _
    rw [if_pos rfl, if_pos hq]
    rfl
  | r :: t => by
    show (if t ++ [q] = [] then _ else r :: rlA c (t ++ [q])) = r :: (t ++ [(q.1, q.2 + 1)])
    rw [if_neg (by simp), rl_old c q hq t]
theorem rl_len (l : List Nat) : ∀ i, (rl l i).length ≤ i
  | 0 => Nat.le_refl _
  | i + 1 => by
    have ih := rl_len l i
    show (rlA (l.getD i 0) (rl l i)).length ≤ _
    rcases List.eq_nil_or_concat (rl l i) with e | ⟨L0, q, e⟩
    · rw [e]; show 1 ≤ i + 1; omega
    · rw [List.concat_eq_append] at e
      by_cases z : q.1 = l.getD i 0
      · rw [e, rl_old _ q z]
        rw [e] at ih
        simp only [List.length_append, List.length_cons, List.length_nil] at ih ⊢
        omega
      · rw [rl_new _ _ (fun L1 r e' => by
          rw [e] at e'
          have := List.append_inj_right' e' rfl
          cases this
          exact z)]
        simp only [List.length_append, List.length_cons, List.length_nil]
        omega
abbrev gD (L : List (Nat × Nat)) (j : Nat) : Nat × Nat := L.getD j (0, 0)
theorem gD_1 {L : List (Nat × Nat)} {q : Nat × Nat} {j : Nat} (h : j < L.length) : gD (L ++ [q]) j = gD L j := by
  simp [List.getD_eq_getElem?_getD, List.getElem?_append, h]
theorem gD_2 {L : List (Nat × Nat)} {q : Nat × Nat} : gD (L ++ [q]) L.length = q := by
  simp [List.getD_eq_getElem?_getD, List.getElem?_append]
theorem gD_mem {L : List (Nat × Nat)} {j : Nat} (h : j < L.length) : gD L j ∈ L := by
  simp [List.getD_eq_getElem?_getD, h]
theorem gD_drop : ∀ (L : List (Nat × Nat)) (j : Nat), j < L.length → L.drop j = gD L j :: L.drop (j + 1)
  | [], j, h => by simp at h
  | q :: t, 0, h => by simp
  | q :: t, j + 1, h => by
    rw [List.drop_succ_cons, List.drop_succ_cons, gD_drop t j (by simpa using h)]
    simp
theorem dst_get : ∀ (L : List (Nat × Nat)), dst L → ∀ i j, i < L.length → j < L.length → i ≠ j → (gD L i).1 ≠ (gD L j).1
  | [], _, i, j, h, _, _ => by simp at h
  | q :: t, hd, 0, 0, _, _, n => absurd rfl n
  | q :: t, hd, 0, j + 1, _, hj, _ => by
    have := hd.1 (gD t j) (gD_mem (by simpa using hj))
    simpa using fun e => this e.symm
  | q :: t, hd, i + 1, 0, hi, _, _ => by
    have := hd.1 (gD t i) (gD_mem (by simpa using hi))
    simpa using this
  | q :: t, hd, i + 1, j + 1, hi, hj, n => by
    have := dst_get t hd.2 i j (by simpa using hi) (by simpa using hj) (by omega)
    simpa using this
/-! the working row -/
def gr (c x : Nat) : Nat → List Nat
  | 0 => []
  | i + 1 => gr c x i ++ [if i < x then c - 1 else c]
def mrR (v : Nat → Nat) : List (Nat × Nat) → List Nat
  | [] => []
  | q :: t => gr q.1 (v q.1) q.2 ++ mrR v t
def gvD (v : Nat → Nat) : List (Nat × Nat) → Nat
  | [] => 0
  | q :: t => v q.1 + gvD v t
def pcD (v : Nat → Nat) : List (Nat × Nat) → Nat
  | [] => 1
  | q :: t => cho q.2 (v q.1) * pcD v t
def szD : List (Nat × Nat) → Nat
  | [] => 0
  | q :: t => q.2 + szD t
theorem gr_len (c x : Nat) : ∀ i, (gr c x i).length = i
  | 0 => rfl
  | i + 1 => by
    show (gr c x i ++ [_]).length = _
    rw [List.length_append, gr_len c x i]
    rfl
theorem mr_len (v : Nat → Nat) : ∀ L, (mrR v L).length = szD L
  | [] => rfl
  | q :: t => by
    show (gr q.1 (v q.1) q.2 ++ mrR v t).length = q.2 + szD t
    rw [List.length_append, gr_len, mr_len v t]
theorem gr_sum {c : Nat} (hc : 1 ≤ c) (x : Nat) : ∀ i, (gr c x i).sum + (if i < x then i else x) = i * c
  | 0 => by
    show 0 + (if 0 < x then 0 else x) = 0 * c
    rw [Nat.zero_mul]
    split <;> omega
  | i + 1 => by
    have ih := gr_sum hc x i
    show (gr c x i ++ [if i < x then c - 1 else c]).sum + (if i + 1 < x then i + 1 else x) = (i + 1) * c
    rw [List.sum_append, List.sum_cons, List.sum_nil, Nat.add_mul, Nat.one_mul]
    by_cases z : i < x
    · rw [if_pos z] at ih ⊢
      by_cases y : i + 1 < x
      · rw [if_pos y]; omega
      · rw [if_neg y]; omega
    · rw [if_neg z] at ih ⊢
      rw [if_neg (by omega)]; omega
theorem gr_cn {c d : Nat} (hc : 1 ≤ c) (x : Nat) : ∀ i, cn d (gr c x i) = (if c = d + 1 then (if i < x then i else x) else 0) + (if c = d then i - x else 0)
  | 0 => by
    show 0 = _
    by_cases y : 0 < x
    · rw [if_pos y]; (repeat' split) <;> omega
    · rw [if_neg y]; (repeat' split) <;> omega
  | i + 1 => by
    show cn d (gr c x i ++ [if i < x then c - 1 else c]) = _
    rw [cn_app, gr_cn hc x i]
    have e : cn d [if i < x then c - 1 else c] = (if (if i < x then c - 1 else c) = d then 1 else 0) := rfl
    rw [e]
    by_cases y : i < x
    · simp only [if_pos y]
      (repeat' split) <;> omega
    · simp only [if_neg y]
      (repeat' split) <;> omega
theorem mr_F {H v : Nat → Nat} (hv : ∀ c, v c ≤ H c) : ∀ n, (mrR v (dsF H n)).sum + gvD v (dsF H n) = wsum H n ∧ gvD v (dsF H n) = gvN v n ∧ pcD v (dsF H n) = pcN H v n ∧ szD (dsF H n) = gvN H n ∧ ∀ d, 1 ≤ d → cn d (mrR v (dsF H n)) = (if d ≤ n then H d - v d else 0) + (if d + 1 ≤ n then v (d + 1) else 0)
  | 0 => ⟨rfl, rfl, rfl, rfl, fun d hd => by rw [if_neg (by omega), if_neg (by omega)]; rfl⟩
  | n + 1 => by
    obtain ⟨i1, i2, i3, i4, i5⟩ := mr_F hv n
    have h1 := hv (n + 1)
    have w1 : wsum H (n + 1) = wsum H n + (n + 1) * H (n + 1) := rfl
    have g1 : gvN v (n + 1) = gvN v n + v (n + 1) := rfl
    have g2 : gvN H (n + 1) = gvN H n + H (n + 1) := rfl
    have p1 : pcN H v (n + 1) = cho (H (n + 1)) (v (n + 1)) * pcN H v n := rfl
    unfold dsF
    by_cases z : H (n + 1) = 0
    · have v0 : v (n + 1) = 0 := by omega
      rw [if_pos z]
      refine ⟨by rw [i1, w1, z, Nat.mul_zero]; rfl, by rw [i2, g1, v0]; rfl, ?_, by rw [i4, g2, z]; rfl, fun d hd => ?_⟩
      · rw [i3, p1, z, v0, show cho 0 0 = 1 from rfl, Nat.one_mul]
      · rw [i5 d hd]
        by_cases y : d = n + 1
        · rw [if_neg (by omega), if_neg (by omega), if_pos (by omega), if_neg (by omega), y, z]; omega
        · by_cases x : d = n
          · rw [if_pos (by omega), if_neg (by omega), if_pos (by omega), if_pos (by omega), x, v0]
          · by_cases w : d + 1 ≤ n
            · rw [if_pos (by omega), if_pos w, if_pos (by omega), if_pos (by omega)]
            · rw [if_neg (by omega), if_neg w, if_neg (by omega), if_neg (by omega)]
    · rw [if_neg z]
      have s1 := gr_sum (c := n + 1) (by omega) (v (n + 1)) (H (n + 1))
      rw [if_neg (by omega), Nat.mul_comm] at s1
      refine ⟨?_, ?_, ?_, ?_, fun d hd => ?_⟩
      · show (gr (n + 1) (v (n + 1)) (H (n + 1)) ++ mrR v (dsF H n)).sum + (v (n + 1) + gvD v (dsF H n)) = _
        rw [List.sum_append]
        omega
      · show v (n + 1) + gvD v (dsF H n) = _
        omega
      · show cho (H (n + 1)) (v (n + 1)) * pcD v (dsF H n) = _
        rw [i3, p1]
      · show H (n + 1) + szD (dsF H n) = _
        omega
      · show cn d (gr (n + 1) (v (n + 1)) (H (n + 1)) ++ mrR v (dsF H n)) = _
        rw [cn_app, gr_cn (by omega), i5 d hd]
        rw [if_neg (show ¬ H (n + 1) < v (n + 1) by omega)]
        by_cases y : d = n + 1
        · rw [if_neg (by omega), if_pos (by omega), if_neg (by omega), if_neg (by omega), if_pos (by omega), if_neg (by omega), y]; omega
        · by_cases x : d = n
          · rw [if_pos (by omega), if_neg (by omega), if_pos (by omega), if_neg (by omega), if_pos (by omega), if_pos (by omega), x]
            omega
          · rw [if_neg (by omega), if_neg (by omega)]
            by_cases w : d + 1 ≤ n
            · rw [if_pos (by omega), if_pos w, if_pos (by omega), if_pos (by omega)]; omega
            · rw [if_neg (by omega), if_neg w, if_neg (by omega), if_neg (by omega)]
theorem se_cn {c : Nat} (hc : 1 ≤ c) (r : List Nat) : ∀ k, k ≤ r.length → cn c (seN r k) = cn c (r.take k)
  | 0, _ => by rw [List.take_zero]; rfl
  | k + 1, h => by
    show cn c (put0 (r.getD k 0) (seN r k)) = _
    rw [cn_put0 hc, se_cn hc r k (by omega), take_snoc r k (by omega), cn_app]
    rfl
/-- the row that a gift makes -/
def mrr (v : Nat → Nat) (L : List (Nat × Nat)) : List Nat := mrR v L ++ [gvD v L]
theorem mr_res {l : List Nat} {v : Nat → Nat} (hl : okl l) (hv : ∀ c, v c ≤ tly l c) : (mrr v (dsF (tly l) l.sum)).length = l.length + 1 ∧ (∀ k, k ≤ (mrr v (dsF (tly l) l.sum)).length → okl (seN (mrr v (dsF (tly l) l.sum)) k)) ∧ (∀ k, k < (mrr v (dsF (tly l) l.sum)).length → (mrr v (dsF (tly l) l.sum)).getD k 0 < 2 ^ 31) ∧ seN (mrr v (dsF (tly l) l.sum)) (mrr v (dsF (tly l) l.sum)).length = res (tly l) v l.sum := by
  obtain ⟨i1, i2, i3, i4, i5⟩ := mr_F hv l.sum
  have hw := tly_ws hl
  have hg := tly_gv hl
  have hs := hl.2.2
  have hn : v (l.sum + 1) = 0 := by have := hv (l.sum + 1); rw [tly_hi (by omega)] at this; omega
  have sm : (mrr v (dsF (tly l) l.sum)).sum = l.sum := by
    unfold mrr
    rw [List.sum_append, List.sum_cons, List.sum_nil]
    omega
  have ln : (mrr v (dsF (tly l) l.sum)).length = l.length + 1 := by
    unfold mrr
    rw [List.length_append, mr_len, i4, hg]
    rfl
  have ok := seN_ok (r := mrr v (dsF (tly l) l.sum)) (by omega)
  obtain ⟨r1, r2⟩ := res_ok hv hn (by omega)
  refine ⟨ln, fun k hk => (ok k hk).1, fun k hk => ?_, ?_⟩
  · have := gd_sum (mrr v (dsF (tly l) l.sum)) k
    omega
  · obtain ⟨o1, o2, -⟩ := ok _ (Nat.le_refl _)
    rw [tsum_len, sm] at o2
    refine okl_ext o1 r1 (by rw [o2, r2, hw]) (fun c h1 h2 => ?_)
    rw [o2] at h2
    rw [se_cn h1 _ _ (Nat.le_refl _), List.take_length, cn_res h1 h2]
    unfold mrr
    rw [cn_app, i5 c h1, i2, if_pos h2]
    show _ + ((if gvN v l.sum = c then 1 else 0) + 0) = _
    unfold rc
    by_cases z : c + 1 ≤ l.sum
    · rw [if_pos z]; omega
    · rw [if_neg z, show c = l.sum by omega, hn]; omega
theorem ng_leF {H v : Nat → Nat} {n : Nat} (h : ∀ c, v c ≤ H c) : ∀ c, ngD (dsF H n) v c ≤ H c := by
  obtain ⟨a, b⟩ := ng_in (dsF H n) v (dsF_d _ _) (fun q hq => by rw [((dsF_mem n q).mp hq).2.2.1]; exact h _)
  intro c
  by_cases z : 1 ≤ c ∧ c ≤ n ∧ 0 < H c
  · exact a (c, H c) ((dsF_mem n (c, H c)).mpr ⟨z.1, z.2.1, rfl, z.2.2⟩)
  · rw [b c (fun q hq e => by
      have := (dsF_mem n q).mp hq
      rw [e] at this
      exact z ⟨this.1, this.2.1, this.2.2.2⟩)]
    exact h c
theorem sm_WTF {l : List Nat} (hl : okl l) (x : Nat) : smI (Fx (tly l) l.sum x) (dsF (tly l) l.sum) (fun _ => 0) (TD (dsF (tly l) l.sum)) = WT l x := by
  have e := (cnt_on (Fx (tly l) l.sum x) (dsF (tly l) l.sum).reverse [] (dsF (tly l) l.sum) (fun _ => 0) (by rw [List.append_nil, List.reverse_reverse]) ?_ (fun _ _ => rfl)).1
  · rw [PD_rev, ns_rev _ _ _ (dsF_d _ _), ns_FC _ _ _ _ (fun _ _ => rfl)] at e
    exact e
  · have key : ∀ (a b : List (Nat × Nat)), dst a → dst b → (∀ q ∈ a, ∀ r ∈ b, q.1 ≠ r.1) → dst (a ++ b) := by
      intro a
      induction a with
      | nil => intro b _ hb _; exact hb
      | cons q t ih =>
        intro b ha hb hab
        refine ⟨fun r hr => ?_, ih b ha.2 hb (fun r hr s hs => hab r (List.mem_cons_of_mem _ hr) s hs)⟩
        rcases List.mem_append.mp hr with z | z
        · exact ha.1 r z
        · exact fun e => hab q (by simp) r z e.symm
    have rev : ∀ (a : List (Nat × Nat)), dst a → dst a.reverse := by
      intro a
      induction a with
      | nil => intro _; trivial
      | cons q t ih =>
        intro ha
        rw [List.reverse_cons]
        exact key _ _ (ih ha.2) ⟨fun r hr => by simp at hr, trivial⟩ (fun r hr s hs => by
          rw [List.mem_singleton] at hs
          rw [hs]
          exact ha.1 r (List.mem_reverse.mp hr))
    exact rev _ (dsF_d _ _)
theorem cho_step : ∀ n, n < 19 → ∀ i, i < n → cho n i * (n - i) / (i + 1) = cho n (i + 1) ∧ cho n i * (n - i) < 2 ^ 63 := by decide +kernel
theorem cho_n0 : ∀ n, n < 19 → cho n 0 = 1 := by decide +kernel
