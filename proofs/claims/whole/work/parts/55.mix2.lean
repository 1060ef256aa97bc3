/-! ===== what comes of a gift; how often ===== -/
def cn (c : Nat) : List Nat → Nat
  | [] => 0
  | x :: t => (if x = c then 1 else 0) + cn c t
theorem cn_app (c : Nat) : ∀ (a b : List Nat), cn c (a ++ b) = cn c a + cn c b
  | [], b => by show cn c b = 0 + cn c b; omega
  | x :: t, b => by
    show (if x = c then 1 else 0) + cn c (t ++ b) = (if x = c then 1 else 0) + cn c t + cn c b
    rw [cn_app c t b]
    omega
theorem cn_ins (c m : Nat) : ∀ (l : List Nat), cn c (ins m l) = cn c l + (if m = c then 1 else 0)
  | [] => by show (if m = c then 1 else 0) + 0 = 0 + _; omega
  | x :: t => by
    unfold ins
    split
    · show (if m = c then 1 else 0) + cn c (x :: t) = _
      omega
    · show (if x = c then 1 else 0) + cn c (ins m t) = (if x = c then 1 else 0) + cn c t + _
      rw [cn_ins c m t]
      omega
theorem cn_put0 {c : Nat} (hc : 1 ≤ c) (m : Nat) (l : List Nat) : cn c (put0 m l) = cn c l + (if m = c then 1 else 0) := by
  unfold put0
  by_cases z : m = 0
  · rw [if_pos z, if_neg (by omega)]; rfl
  · rw [if_neg z]; exact cn_ins c m l
theorem cn_z {c : Nat} : ∀ (l : List Nat), (∀ x ∈ l, x ≠ c) → cn c l = 0
  | [], _ => rfl
  | x :: t, h => by
    show (if x = c then 1 else 0) + cn c t = 0
    rw [if_neg (h x (by simp)), cn_z t (fun y hy => h y (List.mem_cons_of_mem _ hy))]
theorem srt_ext : ∀ (l m : List Nat), srt l → srt m → (∀ x ∈ l, 1 ≤ x) → (∀ x ∈ m, 1 ≤ x) → (∀ c, 1 ≤ c → cn c l = cn c m) → l = m
  | [], [], _, _, _, _, _ => rfl
  | [], y :: u, _, _, _, h, e => by
    have := e y (h y (by simp))
    have e2 : cn y (y :: u) = (if y = y then 1 else 0) + cn y u := rfl
    rw [if_pos rfl] at e2
    have e3 : cn y [] = 0 := rfl
    omega
  | x :: t, [], _, _, h, _, e => by
    have := e x (h x (by simp))
    have e2 : cn x (x :: t) = (if x = x then 1 else 0) + cn x t := rfl
    rw [if_pos rfl] at e2
    have e3 : cn x [] = 0 := rfl
    omega
  | x :: t, y :: u, hl, hm, pl, pm, e => by
    have ex : x = y := by
      rcases Nat.lt_trichotomy x y with z | z | z
      · have h1 : cn y (x :: t) = 0 := cn_z _ (fun w hw => by
          rcases List.mem_cons.mp hw with q | q
          · omega
          · have := hl.1 w q; omega)
        have e2 : cn y (y :: u) = (if y = y then 1 else 0) + cn y u := rfl
        rw [if_pos rfl] at e2
        have := e y (pm y (by simp))
        omega
      · exact z
      · have h1 : cn x (y :: u) = 0 := cn_z _ (fun w hw => by
          rcases List.mem_cons.mp hw with q | q
          · omega
          · have := hm.1 w q; omega)
        have e2 : cn x (x :: t) = (if x = x then 1 else 0) + cn x t := rfl
        rw [if_pos rfl] at e2
        have := e x (pl x (by simp))
        omega
    subst ex
    rw [srt_ext t u hl.2 hm.2 (fun w hw => pl w (List.mem_cons_of_mem _ hw)) (fun w hw => pm w (List.mem_cons_of_mem _ hw)) (fun c hc => by
      have e1 : cn c (x :: t) = (if x = c then 1 else 0) + cn c t := rfl
      have e2 : cn c (x :: u) = (if x = c then 1 else 0) + cn c u := rfl
      have := e c hc
      omega)]
theorem mem_sum : ∀ (l : List Nat) (x : Nat), x ∈ l → x ≤ l.sum
  | [], x, h => by simp at h
  | y :: t, x, h => by
    rw [List.sum_cons]
    rcases List.mem_cons.mp h with e | e
    · omega
    · have := mem_sum t x e; omega
theorem okl_ext {l m : List Nat} (hl : okl l) (hm : okl m) (hs : l.sum = m.sum) (e : ∀ c, 1 ≤ c → c ≤ l.sum → cn c l = cn c m) : l = m := by
  refine srt_ext l m hl.1 hm.1 hl.2.1 hm.2.1 (fun c hc => ?_)
  by_cases z : c ≤ l.sum
  · exact e c hc z
  · rw [cn_z l (fun x hx => by have := mem_sum l x hx; omega), cn_z m (fun x hx => by have := mem_sum m x hx; omega)]
theorem take_snoc : ∀ (l : List Nat) (i : Nat), i < l.length → l.take (i + 1) = l.take i ++ [l.getD i 0]
  | [], i, h => by simp at h
  | x :: t, 0, h => by simp
  | x :: t, i + 1, h => by
    rw [List.take_succ_cons, take_snoc t i (by simpa using h), List.take_succ_cons, List.getD_cons_succ]
    rfl
theorem tl_cn (l : List Nat) (c : Nat) : ∀ i, i ≤ l.length → tlN l i c = cn c (l.take i)
  | 0, _ => by show 0 = _; rw [List.take_zero]; rfl
  | i + 1, h => by
    rw [take_snoc l i (by omega), cn_app, ← tl_cn l c i (by omega)]
    show up (tlN l i) (l.getD i 0) (tlN l i (l.getD i 0) + 1) c = tlN l i c + ((if l.getD i 0 = c then 1 else 0) + 0)
    by_cases z : l.getD i 0 = c
    · rw [if_pos z, z, up_eq]
    · rw [if_neg z, up_ne (fun q => z q.symm)]; rfl
/-- how many heaps of c cards -/
def tly (l : List Nat) : Nat → Nat := tlN l l.length
theorem tly_cn (l : List Nat) (c : Nat) : tly l c = cn c l := by
  unfold tly
  rw [tl_cn l c _ (Nat.le_refl _), List.take_length]
def rpN (c : Nat) (l : List Nat) : Nat → List Nat
  | 0 => l
  | k + 1 => ins c (rpN c l k)
theorem cn_rp (c d : Nat) (l : List Nat) : ∀ k, cn d (rpN c l k) = cn d l + (if c = d then k else 0)
  | 0 => by show cn d l = _; split <;> omega
  | k + 1 => by
    show cn d (ins c (rpN c l k)) = _
    rw [cn_ins, cn_rp c d l k]
    split <;> omega
theorem rp_sum (c : Nat) (l : List Nat) : ∀ k, (rpN c l k).sum = l.sum + k * c
  | 0 => by show l.sum = _; omega
  | k + 1 => by
    show (ins c (rpN c l k)).sum = _
    rw [ins_sum, rp_sum c l k, Nat.add_mul]
    omega
theorem rp_ok {c : Nat} {l : List Nat} (hl : okl l) (hc : 1 ≤ c) : ∀ k, l.sum + k * c ≤ 18 → okl (rpN c l k)
  | 0, _ => hl
  | k + 1, h => by
    rw [Nat.add_mul] at h
    exact okl_ins (rp_ok hl hc k (by omega)) hc (by rw [rp_sum]; omega)
def rc (H v : Nat → Nat) (c : Nat) : Nat := H c - v c + v (c + 1)
def ldL (H v : Nat → Nat) : Nat → List Nat → List Nat
  | 0, l => l
  | c + 1, l => ldL H v c (rpN (c + 1) l (rc H v (c + 1)))
def gvN (v : Nat → Nat) : Nat → Nat
  | 0 => 0
  | c + 1 => gvN v c + v (c + 1)
def wsum (H : Nat → Nat) : Nat → Nat
  | 0 => 0
  | c + 1 => wsum H c + (c + 1) * H (c + 1)
theorem ar_1 (c H v w : Nat) (h : v ≤ H) : (H - v + w) * (c + 1) + v + c * v = (c + 1) * H + (c + 1) * w := by
  obtain ⟨d, rfl⟩ : ∃ d, H = v + d := ⟨H - v, by omega⟩
  rw [Nat.add_sub_cancel_left]
  simp only [Nat.add_mul, Nat.mul_add, Nat.one_mul, Nat.mul_one, Nat.mul_comm]
  omega
theorem ld_inv {H v : Nat → Nat} (hv : ∀ c, v c ≤ H c) : ∀ (c : Nat) (l : List Nat) (G : Nat), okl l → l.sum + G + c * v (c + 1) + wsum H c ≤ 18 → okl (ldL H v c l) ∧ (ldL H v c l).sum + G + gvN v c = l.sum + G + c * v (c + 1) + wsum H c
  | 0, l, G, hl, _ => ⟨hl, by show l.sum + G + 0 = l.sum + G + 0 * v 1 + 0; omega⟩
  | c + 1, l, G, hl, hs => by
    have a1 := ar_1 c (H (c + 1)) (v (c + 1)) (v (c + 2)) (hv _)
    have e1 : rc H v (c + 1) = H (c + 1) - v (c + 1) + v (c + 2) := rfl
    have s1 := rp_sum (c + 1) l (rc H v (c + 1))
    have w1 : wsum H (c + 1) = wsum H c + (c + 1) * H (c + 1) := rfl
    have g1 : gvN v (c + 1) = gvN v c + v (c + 1) := rfl
    rw [← e1] at a1
    rw [w1, show c + 1 + 1 = c + 2 from rfl] at hs ⊢
    obtain ⟨i1, i2⟩ := ld_inv hv c (rpN (c + 1) l (rc H v (c + 1))) (G + v (c + 1)) (rp_ok hl (by omega) _ (by omega)) (by omega)
    refine ⟨i1, ?_⟩
    show (ldL H v c (rpN (c + 1) l (rc H v (c + 1)))).sum + G + gvN v (c + 1) = _
    omega
theorem cn_ld (H v : Nat → Nat) (d : Nat) : ∀ (c : Nat) (l : List Nat), cn d (ldL H v c l) = cn d l + (if 1 ≤ d ∧ d ≤ c then rc H v d else 0)
  | 0, l => by rw [if_neg (by omega)]; rfl
  | c + 1, l => by
    show cn d (ldL H v c (rpN (c + 1) l (rc H v (c + 1)))) = _
    rw [cn_ld H v d c, cn_rp]
    by_cases z : c + 1 = d
    · rw [if_pos z, if_neg (by omega), if_pos (by omega), z]; rfl
    · rw [if_neg z]
      by_cases y : 1 ≤ d ∧ d ≤ c
      · rw [if_pos y, if_pos (by omega)]; rfl
      · rw [if_neg y, if_neg (by omega)]
/-- where the gift v of heaps H of n cards leads -/
def res (H v : Nat → Nat) (n : Nat) : List Nat := put0 (gvN v n) (ldL H v n [])
def pcN (H v : Nat → Nat) : Nat → Nat
  | 0 => 1
  | c + 1 => cho (H (c + 1)) (v (c + 1)) * pcN H v c
theorem res_ok {H v : Nat → Nat} {n : Nat} (hv : ∀ c, v c ≤ H c) (hn : v (n + 1) = 0) (hw : wsum H n ≤ 18) : okl (res H v n) ∧ (res H v n).sum = wsum H n := by
  have e0 : ([] : List Nat).sum = 0 := rfl
  obtain ⟨i1, i2⟩ := ld_inv hv n [] 0 okl_nil (by rw [hn, Nat.mul_zero]; omega)
  rw [hn, Nat.mul_zero] at i2
  unfold res
  exact ⟨okl_put0 i1 (by omega), by rw [put0_sum]; omega⟩
theorem cn_res {H v : Nat → Nat} {n d : Nat} (h1 : 1 ≤ d) (h2 : d ≤ n) : cn d (res H v n) = rc H v d + (if gvN v n = d then 1 else 0) := by
  unfold res
  rw [cn_put0 h1, cn_ld, if_pos ⟨h1, h2⟩]
  show 0 + _ + _ = _
  omega
/-! a tally's sums -/
theorem gv_up {H : Nat → Nat} {a : Nat} (h1 : 1 ≤ a) : ∀ n, gvN (up H a (H a + 1)) n = gvN H n + (if a ≤ n then 1 else 0)
  | 0 => by rw [if_neg (by omega)]; rfl
  | n + 1 => by
    show gvN (up H a (H a + 1)) n + up H a (H a + 1) (n + 1) = gvN H n + H (n + 1) + _
    rw [gv_up h1 n]
    by_cases c : n + 1 = a
    · rw [← c, up_eq, if_neg (by omega), if_pos (by omega)]; omega
    · rw [up_ne c]
      by_cases d : a ≤ n
      · rw [if_pos d, if_pos (by omega)]; omega
      · rw [if_neg d, if_neg (by omega)]; omega
theorem ws_up {H : Nat → Nat} {a : Nat} (h1 : 1 ≤ a) : ∀ n, wsum (up H a (H a + 1)) n = wsum H n + (if a ≤ n then a else 0)
  | 0 => by rw [if_neg (by omega)]; rfl
  | n + 1 => by
    show wsum (up H a (H a + 1)) n + (n + 1) * up H a (H a + 1) (n + 1) = wsum H n + (n + 1) * H (n + 1) + _
    rw [ws_up h1 n]
    by_cases c : n + 1 = a
    · rw [← c, up_eq, if_neg (by omega), if_pos (by omega), Nat.mul_add]; omega
    · rw [up_ne c]
      by_cases d : a ≤ n
      · rw [if_pos d, if_pos (by omega)]; omega
      · rw [if_neg d, if_neg (by omega)]; omega
theorem tl_sums {l : List Nat} (hl : okl l) {n : Nat} (hn : l.sum ≤ n) : ∀ i, i ≤ l.length → gvN (tlN l i) n = i ∧ wsum (tlN l i) n = tsum l i
  | 0, _ => by
    have z1 : ∀ n, gvN (tlN l 0) n = 0 := fun n => by
      induction n with
      | zero => rfl
      | succ n ih => show gvN (tlN l 0) n + 0 = 0; rw [ih]
    have z2 : ∀ n, wsum (tlN l 0) n = 0 := fun n => by
      induction n with
      | zero => rfl
      | succ n ih => show wsum (tlN l 0) n + (n + 1) * 0 = 0; rw [ih, Nat.mul_zero]
    exact ⟨z1 _, by rw [z2, tsum_0]⟩
  | i + 1, hi => by
    obtain ⟨e1, e2⟩ := tl_sums hl hn i (by omega)
    have p1 := hl.2.1 _ (gd_mem l i (by omega))
    have p2 := gd_sum l i
    refine ⟨?_, ?_⟩
    · show gvN (up (tlN l i) (l.getD i 0) (tlN l i (l.getD i 0) + 1)) n = _
      rw [gv_up p1, if_pos (by omega), e1]
    · show wsum (up (tlN l i) (l.getD i 0) (tlN l i (l.getD i 0) + 1)) n = _
      rw [ws_up p1, if_pos (by omega), e2, tsum_succ l i (by omega)]
theorem tly_gv {l : List Nat} (hl : okl l) : gvN (tly l) l.sum = l.length := (tl_sums hl (Nat.le_refl _) _ (Nat.le_refl _)).1
theorem tly_gv18 {l : List Nat} (hl : okl l) : gvN (tly l) 18 = l.length := (tl_sums hl hl.2.2 _ (Nat.le_refl _)).1
theorem tly_ws {l : List Nat} (hl : okl l) : wsum (tly l) l.sum = l.sum := (tl_sums hl (Nat.le_refl _) _ (Nat.le_refl _)).2.trans (tsum_len l)
theorem tly_hi {l : List Nat} {c : Nat} (h : l.sum < c) : tly l c = 0 := by
  rw [tly_cn]
  exact cn_z l (fun x hx => by have := mem_sum l x hx; omega)
theorem tly_le {l : List Nat} (hl : okl l) (c : Nat) : tly l c ≤ 18 := by
  have := tlN_le l l.length c
  have := hl.len
  unfold tly
  omega
/-! how often a parting comes of another -/
def Fx (H : Nat → Nat) (n x : Nat) : VF := fun v => if nb (res H v n) = x then pcN H v n else 0
def WT (l : List Nat) (x : Nat) : Nat := ns (Fx (tly l) l.sum x) (dsC (tly l) l.sum) (fun _ => 0)
def FR (H W : Nat → Nat) (gi : Nat) : Nat → Nat → VF
  | 0, s, _ => if s = gi then 1 else 0
  | c + 1, s, v => if rc H v (c + 1) + (if gi = c + 1 then 1 else 0) = W (c + 1) then cho (H (c + 1)) (v (c + 1)) * FR H W gi c (s + v (c + 1)) v else 0
theorem FR_yes {H W : Nat → Nat} {gi : Nat} {v : Nat → Nat} : ∀ c s, (∀ d, 1 ≤ d → d ≤ c → rc H v d + (if gi = d then 1 else 0) = W d) → s + gvN v c = gi → FR H W gi c s v = pcN H v c
  | 0, s, _, h => by
    show (if s = gi then 1 else 0) = 1
    rw [if_pos (by rw [← h]; rfl)]
  | c + 1, s, h, e => by
    have e1 : gvN v (c + 1) = gvN v c + v (c + 1) := rfl
    show (if _ then _ else _) = _
    rw [if_pos (h (c + 1) (by omega) (Nat.le_refl _)), FR_yes c (s + v (c + 1)) (fun d h1 h2 => h d h1 (by omega)) (by omega)]
    rfl
theorem FR_no {H W : Nat → Nat} {gi : Nat} {v : Nat → Nat} : ∀ c s, ¬ ((∀ d, 1 ≤ d → d ≤ c → rc H v d + (if gi = d then 1 else 0) = W d) ∧ s + gvN v c = gi) → FR H W gi c s v = 0
  | 0, s, h => by
    show (if s = gi then 1 else 0) = 0
    rw [if_neg (fun e => h ⟨fun d h1 h2 => by omega, by rw [← e]; rfl⟩)]
  | c + 1, s, h => by
    have e1 : gvN v (c + 1) = gvN v c + v (c + 1) := rfl
    show (if _ then _ else _) = _
    by_cases z : rc H v (c + 1) + (if gi = c + 1 then 1 else 0) = W (c + 1)
    · rw [if_pos z, FR_no c (s + v (c + 1)) (fun q => h ⟨fun d h1 h2 => ?_, by have := q.2; omega⟩), Nat.mul_zero]
      by_cases y : d = c + 1
      · rw [y]; exact z
      · exact q.1 d h1 (by omega)
    · rw [if_neg z]
def cgN (H W : Nat → Nat) (gi : Nat) : Nat → Nat → Nat → Nat → Nat
  | 0, P, s, _ => if s = gi then P else 0
  | c + 1, P, s, f => if W (c + 1) ≤ H (c + 1) + f + (if c + 1 = gi then 1 else 0) ∧ H (c + 1) + f + (if c + 1 = gi then 1 else 0) ≤ W (c + 1) + H (c + 1) then cgN H W gi c (P * cho (H (c + 1)) (H (c + 1) + f + (if c + 1 = gi then 1 else 0) - W (c + 1))) (s + (H (c + 1) + f + (if c + 1 = gi then 1 else 0) - W (c + 1))) (H (c + 1) + f + (if c + 1 = gi then 1 else 0) - W (c + 1)) else 0
theorem cg_ns (H W : Nat → Nat) (gi : Nat) : ∀ (c P s : Nat) (v : Nat → Nat), cgN H W gi c P s (v (c + 1)) = P * ns (FR H W gi c s) (dsC H c) v
  | 0, P, s, v => by
    show (if s = gi then P else 0) = P * (if s = gi then 1 else 0)
    split
    · rw [Nat.mul_one]
    · rw [Nat.mul_zero]
  | c + 1, P, s, v => by
    have sw : (if gi = c + 1 then 1 else 0) = (if c + 1 = gi then 1 else 0) := by
      by_cases z : gi = c + 1
      · rw [if_pos z, if_pos z.symm]
      · rw [if_neg z, if_neg (fun q => z q.symm)]
    have one : ∀ x, x ≤ H (c + 1) → ns (FR H W gi (c + 1) s) (dsC H c) (up v (c + 1) x) = (if H (c + 1) - x + v (c + 2) + (if c + 1 = gi then 1 else 0) = W (c + 1) then cho (H (c + 1)) x else 0) * ns (FR H W gi c (s + x)) (dsC H c) (up v (c + 1) x) := by
      intro x hx
      rw [← ns_mul]
      refine ns_cg _ _ (dsC_d H c) (fun v' a => ?_)
      have a1 : v' (c + 1) = x := by
        rw [a.1 (c + 1) (fun q hq => by have := (dsC_mem c q).mp hq; omega), up_eq]
      have a2 : v' (c + 2) = v (c + 2) := by
        rw [a.1 (c + 2) (fun q hq => by have := (dsC_mem c q).mp hq; omega), up_ne (by omega)]
      show (if H (c + 1) - v' (c + 1) + v' (c + 1 + 1) + (if gi = c + 1 then 1 else 0) = W (c + 1) then cho (H (c + 1)) (v' (c + 1)) * FR H W gi c (s + v' (c + 1)) v' else 0) = _
      rw [a1, show c + 1 + 1 = c + 2 from rfl, a2, sw]
      by_cases zz : H (c + 1) - x + v (c + 2) + (if c + 1 = gi then 1 else 0) = W (c + 1)
      · rw [if_pos zz, if_pos zz]
      · rw [if_neg zz, if_neg zz, Nat.zero_mul]
    show (if _ then _ else _) = P * bs (fun x => ns (FR H W gi (c + 1) s) (dsC H c) (up v (c + 1) x)) 0 (H (c + 1) + 1)
    rw [show c + 1 + 1 = c + 2 from rfl]
    generalize he : (if c + 1 = gi then 1 else 0) = e at one ⊢
    generalize hf : v (c + 2) = f at one ⊢
    by_cases z : W (c + 1) ≤ H (c + 1) + f + e ∧ H (c + 1) + f + e ≤ W (c + 1) + H (c + 1)
    · rw [if_pos z]
      generalize ht : H (c + 1) + f + e - W (c + 1) = t
      rw [bs_one (t := t) (H (c + 1) + 1) 0 (Nat.zero_le _) (by omega) (fun x h1 h2 h3 => by
        rw [one x (by omega), if_neg (by omega), Nat.zero_mul]), one t (by omega), if_pos (by omega)]
      have := cg_ns H W gi c (P * cho (H (c + 1)) t) (s + t) (up v (c + 1) t)
      rw [up_eq] at this
      rw [this, Nat.mul_assoc]
    · rw [if_neg z, bs_0 _ _ (fun x h1 h2 => by rw [one x (by omega), if_neg (by omega), Nat.zero_mul]), Nat.mul_zero]
def cbN (H W : Nat → Nat) (n sz : Nat) : Nat := bs (fun gi => if gi = 0 ∨ 0 < W gi then cgN H W gi n 1 0 0 else 0) 0 (sz + 1)
theorem ns_bs (Fg : Nat → VF) (L : List (Nat × Nat)) (v : Nat → Nat) : ∀ y x, ns (fun w => bs (fun gi => Fg gi w) x y) L v = bs (fun gi => ns (Fg gi) L v) x y
  | 0, x => ns_z L v
  | y + 1, x => by
    show ns (fun w => Fg x w + bs (fun gi => Fg gi w) (x + 1) y) L v = ns (Fg x) L v + bs (fun gi => ns (Fg gi) L v) (x + 1) y
    rw [ns_add, ns_bs Fg L v y (x + 1)]
theorem gv_le {v H : Nat → Nat} (h : ∀ c, v c ≤ H c) : ∀ n, gvN v n ≤ gvN H n
  | 0 => Nat.le_refl _
  | n + 1 => Nat.add_le_add (gv_le h n) (h _)
theorem agr_C {H v : Nat → Nat} {n : Nat} (hH : ∀ c, n < c → H c = 0) (a : agr (dsC H n) (fun _ => 0) v) : (∀ c, v c ≤ H c) ∧ v (n + 1) = 0 := by
  have key : ∀ c, (c = 0 ∨ n < c) → v c = 0 := fun c hc => a.1 c (fun q hq => by have := (dsC_mem n q).mp hq; omega)
  refine ⟨fun c => ?_, key _ (by omega)⟩
  by_cases z : c = 0 ∨ n < c
  · rw [key c z]; exact Nat.zero_le _
  · exact a.2 (c, H c) ((dsC_mem n (c, H c)).mpr ⟨by show 1 ≤ c; omega, by show c ≤ n; omega, rfl⟩)
theorem cb_WT {l m : List Nat} (hl : okl l) (hm : okl m) (hs : l.sum = m.sum) : cbN (tly l) (tly m) l.sum l.length = WT l (nb m) := by
  have hw := tly_ws hl
  have hg := tly_gv hl
  have hs2 := hl.2.2
  have hlen := len_sum l hl.2.1
  unfold WT cbN
  have e1 : ns (Fx (tly l) l.sum (nb m)) (dsC (tly l) l.sum) (fun _ => 0) = ns (fun w => bs (fun gi => FR (tly l) (tly m) gi l.sum 0 w) 0 (l.length + 1)) (dsC (tly l) l.sum) (fun _ => 0) := by
    refine ns_cg _ _ (dsC_d _ _) (fun v a => ?_)
    obtain ⟨hv, hn⟩ := agr_C (fun c hc => tly_hi hc) a
    have gl := gv_le hv l.sum
    obtain ⟨r1, r2⟩ := res_ok hv hn (by omega)
    rw [bs_one (t := gvN v l.sum) (l.length + 1) 0 (Nat.zero_le _) (by omega) (fun x h1 h2 h3 => FR_no _ _ (fun q => h3 (by have := q.2; omega)))]
    unfold Fx
    have same : (nb (res (tly l) v l.sum) = nb m) ↔ ∀ d, 1 ≤ d → d ≤ l.sum → rc (tly l) v d + (if gvN v l.sum = d then 1 else 0) = tly m d := by
      constructor
      · intro e d h1 h2
        have er : res (tly l) v l.sum = m := by
          have w1 := wr_nb r1
          have w2 := wr_nb hm
          rw [e, r2, hw] at w1
          rw [← hs] at w2
          exact w1.symm.trans w2
        rw [tly_cn, ← er, cn_res h1 h2]
      · intro h
        have er : res (tly l) v l.sum = m := okl_ext r1 hm (by rw [r2, hw, hs]) (fun c h1 h2 => by
          rw [cn_res h1 (by omega), ← tly_cn m c]
          exact h c h1 (by omega))
        rw [er]
    by_cases z : nb (res (tly l) v l.sum) = nb m
    · rw [if_pos z, FR_yes _ _ (same.mp z) (by omega)]
    · rw [if_neg z, FR_no _ _ (fun q => z (same.mpr q.1))]
  rw [e1, ns_bs]
  refine bs_cg _ _ (fun gi h1 h2 => ?_)
  have c1 := cg_ns (tly l) (tly m) gi l.sum 1 0 (fun _ => 0)
  rw [Nat.one_mul] at c1
  by_cases z : gi = 0 ∨ 0 < tly m gi
  · rw [if_pos z]; exact c1
  · rw [if_neg z]
    have : ns (FR (tly l) (tly m) gi l.sum 0) (dsC (tly l) l.sum) (fun _ => 0) = ns (fun _ => 0) (dsC (tly l) l.sum) (fun _ => 0) := ns_cg _ _ (dsC_d _ _) (fun v a => FR_no _ _ (fun q => by
      have := q.1 gi (by omega) (by omega)
      rw [if_pos rfl] at this
      omega))
    rw [this, ns_z]
theorem cho_le : ∀ n, n < 19 → ∀ k, k < 19 → cho n k ≤ 2 ^ n := by decide +kernel
theorem cg_le {H W : Nat → Nat} (hH : ∀ c, H c ≤ 18) (gi : Nat) : ∀ (c P s f : Nat), cgN H W gi c P s f ≤ P * 2 ^ gvN H c
  | 0, P, s, f => by
    show (if s = gi then P else 0) ≤ P * 1
    split <;> omega
  | c + 1, P, s, f => by
    show (if _ then _ else _) ≤ P * 2 ^ (gvN H c + H (c + 1))
    generalize (if c + 1 = gi then 1 else 0) = e
    by_cases z : W (c + 1) ≤ H (c + 1) + f + e ∧ H (c + 1) + f + e ≤ W (c + 1) + H (c + 1)
    · rw [if_pos z]
      generalize ht : H (c + 1) + f + e - W (c + 1) = t
      have h1 := hH (c + 1)
      refine Nat.le_trans (cg_le hH gi c _ _ _) ?_
      rw [Nat.pow_add, Nat.mul_assoc, Nat.mul_comm (2 ^ gvN H c)]
      exact Nat.mul_le_mul_left _ (Nat.mul_le_mul_right _ (cho_le _ (by omega) _ (by omega)))
    · rw [if_neg z]; exact Nat.zero_le _
theorem bs_le {f : Nat → Nat} {B : Nat} (h : ∀ x, f x ≤ B) : ∀ y x, bs f x y ≤ y * B
  | 0, x => Nat.zero_le _
  | y + 1, x => by
    have := bs_le h y (x + 1)
    have := h x
    show f x + bs f (x + 1) y ≤ _
    rw [Nat.add_mul]
    omega
theorem cb_le {l m : List Nat} (hl : okl l) : cbN (tly l) (tly m) l.sum l.length < 2 ^ 31 := by
  have hg := tly_gv hl
  have hlen := hl.len
  have p : 2 ^ gvN (tly l) l.sum ≤ 2 ^ 18 := Nat.pow_le_pow_right (by decide) (by omega)
  have := bs_le (f := fun gi => if gi = 0 ∨ 0 < tly m gi then cgN (tly l) (tly m) gi l.sum 1 0 0 else 0) (B := 2 ^ 18) (fun x => by
    show (if _ then _ else _) ≤ _
    split
    · have := cg_le (W := tly m) (tly_le hl) x l.sum 1 0 0
      rw [Nat.one_mul] at this
      omega
    · exact Nat.zero_le _) (l.length + 1) 0
  unfold cbN
  have : (l.length + 1) * 2 ^ 18 ≤ 19 * 2 ^ 18 := Nat.mul_le_mul_right _ (by omega)
  omega
/-! the table -/
theorem lN_0 : lN 0 = 0 := rfl
theorem tb_1 {T : Nat → Int64} {k x p : Nat} {w : Int64} : up T k (T k + w * lN p) x = T x + w * lN (if k = x then p else 0) := by
  by_cases c : k = x
  · rw [if_pos c, c, up_eq]
  · rw [if_neg c, up_ne (fun q => c q.symm), lN_0, Int64.mul_zero, Int64.add_zero]
theorem tb_2 (t w : Int64) (a b : Nat) : t + w * lN a + w * lN b = t + w * lN (a + b) := by
  rw [← lN_add, Int64.mul_add, Int64.add_assoc]
theorem ng_in : ∀ (L : List (Nat × Nat)) (v : Nat → Nat), dst L → (∀ q ∈ L, v q.1 ≤ q.2) → (∀ q ∈ L, ngD L v q.1 ≤ q.2) ∧ (∀ d, (∀ q ∈ L, q.1 ≠ d) → ngD L v d = v d)
  | [], v, _, h => ⟨fun q hq => by simp at hq, fun _ _ => rfl⟩
  | q :: t, v, hd, hle => by
    by_cases c : v q.1 < q.2
    · have e : ngD (q :: t) v = up v q.1 (v q.1 + 1) := by
        show (if v q.1 < q.2 then up v q.1 (v q.1 + 1) else _) = _
        rw [if_pos c]
      rw [e]
      refine ⟨fun r hr => ?_, fun d hd' => up_ne (fun z => hd' q (by simp) z.symm)⟩
      rcases List.mem_cons.mp hr with z | z
      · subst z; rw [up_eq]; omega
      · rw [up_ne (hd.1 r z)]; exact hle r hr
    · have e : ngD (q :: t) v = ngD t (up v q.1 0) := by
        show (if v q.1 < q.2 then _ else ngD t (up v q.1 0)) = _
        rw [if_neg c]
      obtain ⟨i2, i3⟩ := ng_in t (up v q.1 0) hd.2 (fun r hr => by rw [up_ne (hd.1 r hr)]; exact hle r (List.mem_cons_of_mem _ hr))
      rw [e]
      refine ⟨fun r hr => ?_, fun d hd' => ?_⟩
      · rcases List.mem_cons.mp hr with z | z
        · subst z; rw [i3 r.1 hd.1, up_eq]; exact Nat.zero_le _
        · exact i2 r z
      · rw [i3 d (fun r hr => hd' r (List.mem_cons_of_mem _ hr)), up_ne (fun z => hd' q (by simp) z.symm)]
