/-! ===== each heap gives or not: sums over all that may be given ===== -/
def cho (n k : Nat) : Nat := choF (n * 19 + k)
def bs (f : Nat → Nat) : Nat → Nat → Nat
  | _, 0 => 0
  | x, y + 1 => f x + bs f (x + 1) y
theorem bs_cg {f f' : Nat → Nat} : ∀ y x, (∀ z, x ≤ z → z < x + y → f z = f' z) → bs f x y = bs f' x y
  | 0, _, _ => rfl
  | y + 1, x, h => by
    show f x + bs f (x + 1) y = f' x + bs f' (x + 1) y
    rw [h x (Nat.le_refl _) (by omega), bs_cg y (x + 1) (fun z h1 h2 => h z (by omega) (by omega))]
theorem bs_0 {f : Nat → Nat} : ∀ y x, (∀ z, x ≤ z → z < x + y → f z = 0) → bs f x y = 0
  | 0, _, _ => rfl
  | y + 1, x, h => by
    show f x + bs f (x + 1) y = 0
    rw [h x (Nat.le_refl _) (by omega), bs_0 y (x + 1) (fun z h1 h2 => h z (by omega) (by omega))]
theorem bs_add (f f' : Nat → Nat) : ∀ y x, bs (fun z => f z + f' z) x y = bs f x y + bs f' x y
  | 0, _ => rfl
  | y + 1, x => by
    show (f x + f' x) + bs (fun z => f z + f' z) (x + 1) y = (f x + bs f (x + 1) y) + (f' x + bs f' (x + 1) y)
    rw [bs_add f f' y (x + 1)]
    omega
theorem bs_mul (k : Nat) (f : Nat → Nat) : ∀ y x, bs (fun z => k * f z) x y = k * bs f x y
  | 0, _ => rfl
  | y + 1, x => by
    show k * f x + bs (fun z => k * f z) (x + 1) y = k * (f x + bs f (x + 1) y)
    rw [bs_mul k f y (x + 1), Nat.mul_add]
theorem bs_z : ∀ y x, bs (fun _ => 0) x y = 0
  | 0, _ => rfl
  | y + 1, x => by
    show 0 + bs (fun _ => 0) (x + 1) y = 0
    rw [bs_z y (x + 1)]
theorem bs_comm (f : Nat → Nat → Nat) (x' y' : Nat) : ∀ y x, bs (fun a => bs (fun b => f a b) x' y') x y = bs (fun b => bs (fun a => f a b) x y) x' y'
  | 0, x => by
    show 0 = bs (fun b => 0) x' y'
    rw [bs_z]
  | y + 1, x => by
    show bs (fun b => f x b) x' y' + bs (fun a => bs (fun b => f a b) x' y') (x + 1) y = bs (fun b => f x b + bs (fun a => f a b) (x + 1) y) x' y'
    rw [bs_comm f x' y' y (x + 1), bs_add]
/-- of the summands from x on only that at t counts -/
theorem bs_one {f : Nat → Nat} {t : Nat} : ∀ y x, x ≤ t → t < x + y → (∀ z, x ≤ z → z < x + y → z ≠ t → f z = 0) → bs f x y = f t
  | 0, x, h1, h2, _ => by omega
  | y + 1, x, h1, h2, h => by
    show f x + bs f (x + 1) y = f t
    by_cases c : x = t
    · subst c
      rw [bs_0 y (x + 1) (fun z h3 h4 => h z (by omega) (by omega) (by omega))]
      omega
    · rw [h x (Nat.le_refl _) (by omega) c, bs_one y (x + 1) (by omega) (by omega) (fun z h3 h4 h5 => h z (by omega) (by omega) h5)]
      omega
abbrev VF : Type := (Nat → Nat) → Nat
def ns (F : VF) : List (Nat × Nat) → (Nat → Nat) → Nat
  | [], v => F v
  | q :: t, v => bs (fun x => ns F t (up v q.1 x)) 0 (q.2 + 1)
theorem up_cm {α : Type} {F : Nat → α} {a b : Nat} {x y : α} (n : a ≠ b) : up (up F a x) b y = up (up F b y) a x := by
  funext k
  by_cases c : k = a
  · subst c; rw [up_eq, up_ne n, up_eq]
  · by_cases d : k = b
    · subst d; rw [up_eq, up_ne c, up_eq]
    · rw [up_ne c, up_ne d, up_ne d, up_ne c]
/-- v' is v but for the places of L, where it is at most their number -/
def agr (L : List (Nat × Nat)) (v v' : Nat → Nat) : Prop := (∀ d, (∀ q ∈ L, q.1 ≠ d) → v' d = v d) ∧ ∀ q ∈ L, v' q.1 ≤ q.2
def dst : List (Nat × Nat) → Prop
  | [] => True
  | q :: t => (∀ r ∈ t, r.1 ≠ q.1) ∧ dst t
theorem ns_cg {F F' : VF} : ∀ (L : List (Nat × Nat)) (v : Nat → Nat), dst L → (∀ v', agr L v v' → F v' = F' v') → ns F L v = ns F' L v
  | [], v, _, h => h v ⟨fun _ _ => rfl, fun q hq => by simp at hq⟩
  | q :: t, v, hd, h => by
    refine bs_cg _ _ (fun x h1 h2 => ns_cg t (up v q.1 x) hd.2 (fun v' a => h v' ⟨fun d hd' => ?_, fun r hr => ?_⟩))
    · rw [a.1 d (fun r hr => hd' r (List.mem_cons_of_mem _ hr)), up_ne (fun e => hd' q (by simp) e.symm)]
    · rcases List.mem_cons.mp hr with e | e
      · subst e
        rw [a.1 r.1 (fun s hs => hd.1 s hs), up_eq]
        omega
      · exact a.2 r e
theorem ns_mul (k : Nat) (F : VF) : ∀ (L : List (Nat × Nat)) (v : Nat → Nat), ns (fun w => k * F w) L v = k * ns F L v
  | [], v => rfl
  | q :: t, v => by
    show bs (fun x => ns (fun w => k * F w) t (up v q.1 x)) 0 (q.2 + 1) = k * bs (fun x => ns F t (up v q.1 x)) 0 (q.2 + 1)
    rw [← bs_mul]
    exact bs_cg _ _ (fun x _ _ => ns_mul k F t _)
theorem ns_add (F F' : VF) : ∀ (L : List (Nat × Nat)) (v : Nat → Nat), ns (fun w => F w + F' w) L v = ns F L v + ns F' L v
  | [], v => rfl
  | q :: t, v => by
    show bs (fun x => ns (fun w => F w + F' w) t (up v q.1 x)) 0 (q.2 + 1) = bs (fun x => ns F t (up v q.1 x)) 0 (q.2 + 1) + bs (fun x => ns F' t (up v q.1 x)) 0 (q.2 + 1)
    rw [← bs_add]
    exact bs_cg _ _ (fun x _ _ => ns_add F F' t _)
theorem ns_z : ∀ (L : List (Nat × Nat)) (v : Nat → Nat), ns (fun _ => 0) L v = 0
  | [], v => rfl
  | q :: t, v => bs_0 _ _ (fun x _ _ => ns_z t _)
theorem ns_push (F : VF) (c R : Nat) : ∀ (L : List (Nat × Nat)) (v : Nat → Nat), (∀ r ∈ L, r.1 ≠ c) → bs (fun x => ns F L (up v c x)) 0 R = ns (fun w => bs (fun x => F (up w c x)) 0 R) L v
  | [], v, _ => rfl
  | q :: t, v, h => by
    show bs (fun x => bs (fun y => ns F t (up (up v c x) q.1 y)) 0 (q.2 + 1)) 0 R = bs (fun y => ns (fun w => bs (fun x => F (up w c x)) 0 R) t (up v q.1 y)) 0 (q.2 + 1)
    rw [bs_comm]
    refine bs_cg _ _ (fun y _ _ => ?_)
    rw [← ns_push F c R t (up v q.1 y) (fun r hr => h r (List.mem_cons_of_mem _ hr))]
    refine bs_cg _ _ (fun x _ _ => ?_)
    rw [up_cm (fun e => h q (by simp) e.symm)]
theorem ns_snoc (F : VF) (q : Nat × Nat) : ∀ (L : List (Nat × Nat)) (v : Nat → Nat), ns F (L ++ [q]) v = ns (fun w => bs (fun x => F (up w q.1 x)) 0 (q.2 + 1)) L v
  | [], v => rfl
  | r :: t, v => by
    show bs (fun x => ns F (t ++ [q]) (up v r.1 x)) 0 (r.2 + 1) = bs (fun x => ns (fun w => bs (fun x => F (up w q.1 x)) 0 (q.2 + 1)) t (up v r.1 x)) 0 (r.2 + 1)
    exact bs_cg _ _ (fun x _ _ => ns_snoc F q t _)
theorem ns_rev : ∀ (L : List (Nat × Nat)) (F : VF) (v : Nat → Nat), dst L → ns F L.reverse v = ns F L v
  | [], F, v, _ => rfl
  | q :: t, F, v, h => by
    rw [List.reverse_cons, ns_snoc, ns_rev t _ v h.2, ← ns_push F q.1 (q.2 + 1) t v h.1]
    rfl
/-! counting on -/
def ngD : List (Nat × Nat) → (Nat → Nat) → (Nat → Nat)
  | [], v => v
  | q :: t, v => if v q.1 < q.2 then up v q.1 (v q.1 + 1) else ngD t (up v q.1 0)
def smI (F : VF) (L : List (Nat × Nat)) : (Nat → Nat) → Nat → Nat
  | _, 0 => 0
  | v, k + 1 => F v + smI F L (ngD L v) k
def vi (L : List (Nat × Nat)) : (Nat → Nat) → Nat → (Nat → Nat)
  | v, 0 => v
  | v, k + 1 => vi L (ngD L v) k
theorem smI_add (F : VF) (L : List (Nat × Nat)) (b : Nat) : ∀ (a : Nat) (v : Nat → Nat), smI F L v (a + b) = smI F L v a + smI F L (vi L v a) b
  | 0, v => by rw [Nat.zero_add]; show _ = 0 + smI F L v b; rw [Nat.zero_add]
  | a + 1, v => by
    rw [show a + 1 + b = (a + b) + 1 by omega]
    show F v + smI F L (ngD L v) (a + b) = F v + smI F L (ngD L v) a + smI F L (vi L (ngD L v) a) b
    rw [smI_add F L b a]
    omega
theorem vi_add (L : List (Nat × Nat)) (b : Nat) : ∀ (a : Nat) (v : Nat → Nat), vi L v (a + b) = vi L (vi L v a) b
  | 0, v => by rw [Nat.zero_add]; rfl
  | a + 1, v => by
    rw [show a + 1 + b = (a + b) + 1 by omega]
    exact vi_add L b a (ngD L v)
def PD : List (Nat × Nat) → Nat
  | [] => 1
  | q :: t => PD t * (q.2 + 1)
theorem cnt_on (F : VF) : ∀ (q suf L : List (Nat × Nat)) (v : Nat → Nat), L = q.reverse ++ suf → dst q → (∀ r ∈ q, v r.1 = 0) → smI F L v (PD q) = ns F q v ∧ vi L v (PD q) = ngD suf v
  | [], suf, L, v, hL, _, _ => by
    have : L = suf := by rw [hL]; rfl
    subst this
    exact ⟨rfl, rfl⟩
  | r :: q, suf, L, v, hL, hd, hz => by
    have hL' : L = q.reverse ++ (r :: suf) := by rw [hL, List.reverse_cons, List.append_assoc]; rfl
    have key : ∀ (y x : Nat) (w : Nat → Nat), x + y = r.2 → w r.1 = x → (∀ s ∈ q, w s.1 = 0) → smI F L w (PD q * (y + 1)) = bs (fun z => ns F q (up w r.1 z)) x (y + 1) ∧ vi L w (PD q * (y + 1)) = ngD suf (up w r.1 0) := by
      intro y
      induction y with
      | zero =>
        intro x w hx hw hz'
        obtain ⟨a1, a2⟩ := cnt_on F q (r :: suf) L w hL' hd.2 hz'
        rw [Nat.zero_add, Nat.mul_one]
        refine ⟨?_, ?_⟩
        · rw [a1]
          show _ = ns F q (up w r.1 x) + 0
          rw [← hw, up_id, Nat.add_zero]
        · rw [a2]
          show (if w r.1 < r.2 then _ else ngD suf (up w r.1 0)) = _
          rw [if_neg (by omega)]
      | succ y ih =>
        intro x w hx hw hz'
        obtain ⟨a1, a2⟩ := cnt_on F q (r :: suf) L w hL' hd.2 hz'
        have a3 : vi L w (PD q) = up w r.1 (x + 1) := by
          rw [a2]
          show (if w r.1 < r.2 then up w r.1 (w r.1 + 1) else _) = _
          rw [if_pos (by omega), hw]
        obtain ⟨b1, b2⟩ := ih (x + 1) (up w r.1 (x + 1)) (by omega) up_eq (fun s hs => by rw [up_ne (hd.1 s hs)]; exact hz' s hs)
        rw [show PD q * (y + 1 + 1) = PD q + PD q * (y + 1) by rw [Nat.mul_add (PD q) (y + 1) 1]; omega]
        refine ⟨?_, ?_⟩
        · rw [smI_add, a1, a3, b1]
          show _ = ns F q (up w r.1 x) + bs (fun z => ns F q (up w r.1 z)) (x + 1) (y + 1)
          rw [show up w r.1 x = w by rw [← hw, up_id]]
          congr 1
          refine bs_cg _ _ (fun z _ _ => ?_)
          rw [up_up]
        · rw [vi_add, a3, b2, up_up]
    obtain ⟨k1, k2⟩ := key r.2 0 v (by omega) (hz r (by simp)) (fun s hs => hz s (List.mem_cons_of_mem _ hs))
    refine ⟨k1, ?_⟩
    show vi L v (PD q * (r.2 + 1)) = _
    rw [k2, show up v r.1 0 = v by rw [← hz r (by simp), up_id]]
/-! the number of a place in the count -/
def ixr : List (Nat × Nat) → (Nat → Nat) → Nat
  | [], _ => 0
  | q :: t, v => v q.1 + (q.2 + 1) * ixr t v
def TD : List (Nat × Nat) → Nat
  | [] => 1
  | q :: t => (q.2 + 1) * TD t
def fullD (L : List (Nat × Nat)) (v : Nat → Nat) : Prop := ∀ q ∈ L, v q.1 = q.2
theorem ixr_up {c x : Nat} : ∀ (L : List (Nat × Nat)) (v : Nat → Nat), (∀ r ∈ L, r.1 ≠ c) → ixr L (up v c x) = ixr L v
  | [], v, _ => rfl
  | q :: t, v, h => by
    show up v c x q.1 + (q.2 + 1) * ixr t (up v c x) = v q.1 + (q.2 + 1) * ixr t v
    rw [up_ne (h q (by simp)), ixr_up t v (fun r hr => h r (List.mem_cons_of_mem _ hr))]
theorem ixr_lt : ∀ (L : List (Nat × Nat)) (v : Nat → Nat), (∀ q ∈ L, v q.1 ≤ q.2) → ixr L v < TD L
  | [], v, _ => Nat.zero_lt_one
  | q :: t, v, h => by
    have h1 := h q (by simp)
    have ih := ixr_lt t v (fun r hr => h r (List.mem_cons_of_mem _ hr))
    show v q.1 + (q.2 + 1) * ixr t v < (q.2 + 1) * TD t
    have := Nat.mul_le_mul_left (q.2 + 1) ih
    rw [Nat.mul_succ] at this
    omega
theorem ixr_full : ∀ (L : List (Nat × Nat)) (v : Nat → Nat), fullD L v → ixr L v + 1 = TD L
  | [], v, _ => rfl
  | q :: t, v, h => by
    have h1 := h q (by simp)
    have ih := ixr_full t v (fun r hr => h r (List.mem_cons_of_mem _ hr))
    show v q.1 + (q.2 + 1) * ixr t v + 1 = (q.2 + 1) * TD t
    rw [← ih, Nat.mul_add, h1]
    omega
theorem ixr_ng : ∀ (L : List (Nat × Nat)) (v : Nat → Nat), dst L → (∀ q ∈ L, v q.1 ≤ q.2) → ¬ fullD L v → ixr L (ngD L v) = ixr L v + 1 ∧ (∀ q ∈ L, ngD L v q.1 ≤ q.2) ∧ (∀ d, (∀ q ∈ L, q.1 ≠ d) → ngD L v d = v d)
  | [], v, _, _, h => absurd (fun q hq => by simp at hq) h
  | q :: t, v, hd, hle, hf => by
    have h1 := hle q (by simp)
    by_cases c : v q.1 < q.2
    · have e : ngD (q :: t) v = up v q.1 (v q.1 + 1) := by
        show (if v q.1 < q.2 then up v q.1 (v q.1 + 1) else _) = _
        rw [if_pos c]
      rw [e]
      refine ⟨?_, fun r hr => ?_, fun d hd' => up_ne (fun z => hd' q (by simp) z.symm)⟩
      · show up v q.1 (v q.1 + 1) q.1 + (q.2 + 1) * ixr t (up v q.1 (v q.1 + 1)) = v q.1 + (q.2 + 1) * ixr t v + 1
        rw [up_eq, ixr_up t v hd.1]
        omega
      · rcases List.mem_cons.mp hr with z | z
        · subst z; rw [up_eq]; omega
        · rw [up_ne (hd.1 r z)]; exact hle r hr
    · have e : ngD (q :: t) v = ngD t (up v q.1 0) := by
        show (if v q.1 < q.2 then _ else ngD t (up v q.1 0)) = _
        rw [if_neg c]
      obtain ⟨i1, i2, i3⟩ := ixr_ng t (up v q.1 0) hd.2 (fun r hr => by rw [up_ne (hd.1 r hr)]; exact hle r (List.mem_cons_of_mem _ hr)) (fun z => hf (fun r hr => by
        rcases List.mem_cons.mp hr with w | w
        · subst w; omega
        · have := z r w
          rw [up_ne (hd.1 r w)] at this
          exact this))
      rw [e]
      refine ⟨?_, fun r hr => ?_, fun d hd' => ?_⟩
      · show ngD t (up v q.1 0) q.1 + (q.2 + 1) * ixr t (ngD t (up v q.1 0)) = v q.1 + (q.2 + 1) * ixr t v + 1
        rw [i1, i3 q.1 hd.1, up_eq, ixr_up t v hd.1, Nat.mul_add]
        omega
      · rcases List.mem_cons.mp hr with z | z
        · subst z; rw [i3 r.1 hd.1, up_eq]; omega
        · exact i2 r z
      · rw [i3 d (fun r hr => hd' r (List.mem_cons_of_mem _ hr)), up_ne (fun z => hd' q (by simp) z.symm)]
theorem PD_snoc (q : Nat × Nat) : ∀ (L : List (Nat × Nat)), PD (L ++ [q]) = (q.2 + 1) * PD L
  | [] => by show 1 * (q.2 + 1) = (q.2 + 1) * 1; omega
  | r :: t => by
    show PD (t ++ [q]) * (r.2 + 1) = (q.2 + 1) * (PD t * (r.2 + 1))
    rw [PD_snoc q t, Nat.mul_assoc]
theorem PD_rev : ∀ (L : List (Nat × Nat)), PD L.reverse = TD L
  | [] => rfl
  | q :: t => by
    rw [List.reverse_cons, PD_snoc, PD_rev t]
    rfl
/-! the sizes -/
def dsC (H : Nat → Nat) : Nat → List (Nat × Nat)
  | 0 => []
  | c + 1 => (c + 1, H (c + 1)) :: dsC H c
def dsF (H : Nat → Nat) : Nat → List (Nat × Nat)
  | 0 => []
  | c + 1 => if H (c + 1) = 0 then dsF H c else (c + 1, H (c + 1)) :: dsF H c
theorem dsC_mem {H : Nat → Nat} : ∀ n q, q ∈ dsC H n ↔ 1 ≤ q.1 ∧ q.1 ≤ n ∧ q.2 = H q.1
  | 0, q => by
    constructor
    · intro h; cases h
    · intro h; omega
  | n + 1, q => by
    show q ∈ (n + 1, H (n + 1)) :: dsC H n ↔ _
    rw [List.mem_cons, dsC_mem n q]
    constructor
    · rintro (e | ⟨h1, h2, h3⟩)
      · subst e; exact ⟨by show 1 ≤ n + 1; omega, Nat.le_refl _, rfl⟩
      · exact ⟨h1, by omega, h3⟩
    · rintro ⟨h1, h2, h3⟩
      by_cases c : q.1 = n + 1
      · left
        obtain ⟨a, b⟩ := q
        dsimp only at c h3
        subst c; subst h3; rfl
      · right; exact ⟨h1, by omega, h3⟩
theorem dsF_mem {H : Nat → Nat} : ∀ n q, q ∈ dsF H n ↔ 1 ≤ q.1 ∧ q.1 ≤ n ∧ q.2 = H q.1 ∧ 0 < H q.1
  | 0, q => by
    constructor
    · intro h; cases h
    · intro h; omega
  | n + 1, q => by
    unfold dsF
    by_cases z : H (n + 1) = 0
    · rw [if_pos z, dsF_mem n q]
      constructor
      · rintro ⟨h1, h2, h3, h4⟩; exact ⟨h1, by omega, h3, h4⟩
      · rintro ⟨h1, h2, h3, h4⟩
        refine ⟨h1, ?_, h3, h4⟩
        by_cases c : q.1 = n + 1
        · rw [c] at h4; omega
        · omega
    · rw [if_neg z, List.mem_cons, dsF_mem n q]
      constructor
      · rintro (e | ⟨h1, h2, h3, h4⟩)
        · subst e; exact ⟨by show 1 ≤ n + 1; omega, Nat.le_refl _, rfl, by show 0 < H (n + 1); omega⟩
        · exact ⟨h1, by omega, h3, h4⟩
      · rintro ⟨h1, h2, h3, h4⟩
        by_cases c : q.1 = n + 1
        · left
          obtain ⟨a, b⟩ := q
          dsimp only at c h3
          subst c; subst h3; rfl
        · right; exact ⟨h1, by omega, h3, h4⟩
theorem dsC_d (H : Nat → Nat) : ∀ n, dst (dsC H n)
  | 0 => trivial
  | n + 1 => ⟨fun r hr => by have := (dsC_mem n r).mp hr; show r.1 ≠ n + 1; omega, dsC_d H n⟩
theorem dsF_d (H : Nat → Nat) : ∀ n, dst (dsF H n)
  | 0 => trivial
  | n + 1 => by
    unfold dsF
    by_cases z : H (n + 1) = 0
    · rw [if_pos z]; exact dsF_d H n
    · rw [if_neg z]
      exact ⟨fun r hr => by have := (dsF_mem n r).mp hr; show r.1 ≠ n + 1; omega, dsF_d H n⟩
theorem ns_FC (F : VF) (H : Nat → Nat) : ∀ n (v : Nat → Nat), (∀ d, d ≤ n → v d = 0) → ns F (dsF H n) v = ns F (dsC H n) v
  | 0, v, _ => rfl
  | n + 1, v, hz => by
    show _ = bs (fun x => ns F (dsC H n) (up v (n + 1) x)) 0 (H (n + 1) + 1)
    unfold dsF
    by_cases z : H (n + 1) = 0
    · rw [if_pos z, z, ns_FC F H n v (fun d hd => hz d (by omega))]
      show _ = ns F (dsC H n) (up v (n + 1) 0) + 0
      rw [show up v (n + 1) 0 = v by rw [← hz (n + 1) (Nat.le_refl _), up_id], Nat.add_zero]
    · rw [if_neg z]
      refine bs_cg _ _ (fun x _ _ => ns_FC F H n (up v (n + 1) x) (fun d hd => ?_))
      rw [up_ne (by omega)]
      exact hz d (by omega)
theorem ns_more (F : VF) (H : Nat → Nat) (n : Nat) : ∀ d (v : Nat → Nat), (∀ c, n < c → H c = 0) → (∀ c, v c = 0) → ns F (dsC H (n + d)) v = ns F (dsC H n) v
  | 0, v, _, _ => rfl
  | d + 1, v, hH, hz => by
    show bs (fun x => ns F (dsC H (n + d)) (up v (n + d + 1) x)) 0 (H (n + d + 1) + 1) = _
    rw [hH (n + d + 1) (by omega)]
    show ns F (dsC H (n + d)) (up v (n + d + 1) 0) + 0 = _
    rw [show up v (n + d + 1) 0 = v by rw [← hz (n + d + 1), up_id], Nat.add_zero]
    exact ns_more F H n d v hH hz
